/** Promises 1 to 6 and 16 to 20: NOTES, TERMS, and what changes them. */
final class NotesTest {
    private NotesTest() {
    }

    static void run() {
        newObject();
        note();
        of();
        at();
        all();
        terms();
        set();
        shift();
        swap();
        pass();
        undo();
        undoKeepsTheLatest();
        undoIsForgotten();
    }

    private static void newObject() {
        Check.about("promise 1");
        CounterDesk x = new CounterDesk();
        Check.due("NONE", CounterDesk.NONE, -1);
        int[] want = {0, 0, 0, 0, 0, 0, 0, 0, 0, 0, 0, -1, 0, 1, 0, 0, 24};
        for (int i = 0; i < want.length; i++) {
            Check.due("count(" + i + ")", x.count(i), want[i]);
        }
        Check.due("fault()", x.fault(), -1);
        Check.due("stopped()", x.stopped(), -1);
        Check.due("blots()", x.blots(), 0);
        Check.due("drawn(0, 0)", x.drawn(0, 0), -1);
        x.note(1, 1);
        Check.due("another object's count(0)", new CounterDesk().count(0), 0);
    }

    private static void note() {
        Check.about("promise 2");
        CounterDesk x = new CounterDesk();
        int[][] cannot = {{-1, 0}, {25, 0}, {0, -1}, {0, 25}, {Integer.MIN_VALUE, 0}, {0, Integer.MAX_VALUE}};
        for (int[] c : cannot) {
            Check.due("note(" + c[0] + ", " + c[1] + ")", x.note(c[0], c[1]), -1);
            Check.due("status()", x.status(), -1);
        }
        for (int i = 0; i < 12; i++) {
            Check.due("note " + i, x.note(i, 24 - i), i);
            Check.due("status()", x.status(), 0);
        }
        Check.due("a 13th note", x.note(0, 0), -5);
        Check.due("status()", x.status(), -5);
        Check.due("a 13th note that can't be", x.note(25, 0), -1);
        Check.due("count(0)", x.count(0), 12);
        Check.due("of(11, 0)", x.of(11, 0), 11);
        Check.due("of(11, 1)", x.of(11, 1), 13);
    }

    private static void of() {
        Check.about("promise 3");
        CounterDesk x = Check.desk(0, 7, 24, 5);
        int[][] want = {{0, 7, 0, 1, 0}, {24, 5, 2, 1, 0}};
        for (int i = 0; i < 2; i++) {
            for (int what = 0; what < 5; what++) {
                Check.due("of(" + i + ", " + what + ")", x.of(i, what), want[i][what]);
            }
            Check.due("of(" + i + ", 5)", x.of(i, 5), -1);
            Check.due("of(" + i + ", -1)", x.of(i, -1), -1);
        }
        Check.due("of(2, 0)", x.of(2, 0), -1);
        Check.due("of(-1, 0)", x.of(-1, 0), -1);
        Check.due("of(max, 2)", x.of(Integer.MAX_VALUE, 2), -1);
        Check.inForce(x, "costs 9;earns 8;bars if place=1");
        int[][] byLaw = {{9, 8, 0}, {9, 8, 1}};
        for (int i = 0; i < 2; i++) {
            for (int what = 2; what < 5; what++) {
                Check.due("of(" + i + ", " + what + ") by law", x.of(i, what), byLaw[i][what - 2]);
            }
        }
    }

    private static void at() {
        Check.about("promise 4");
        CounterDesk x = Check.desk(24, 0, 0, 24);
        Check.due("at(0, 0)", x.at(0, 0), -24);
        Check.due("at(0, 1)", x.at(0, 1), 0);
        Check.due("at(1, 0)", x.at(1, 0), 24);
        Check.due("at(1, 1)", x.at(1, 1), 24);
        int[][] others = {{0, 2}, {0, -1}, {2, 0}, {-1, 0}, {Integer.MIN_VALUE, 1}};
        for (int[] o : others) {
            Check.due("at(" + o[0] + ", " + o[1] + ")", x.at(o[0], o[1]), -1000);
        }
    }

    private static void all() {
        Check.about("promise 5");
        CounterDesk x = Check.desk(0, 3, 0, 10, 0, 1);
        Check.due("all(0)", x.all(0), 16);
        Check.due("all(1)", x.all(1), 3);
        Check.due("all(2)", x.all(2), 0);
        Check.due("all(3)", x.all(3), -1);
        Check.due("all(-1)", x.all(-1), -1);
        Check.inForce(x, "bars if here > 2;earns here");
        Check.due("all(0) by law", x.all(0), 16);
        Check.due("all(1) by law", x.all(1), 14);
        Check.due("all(2) by law", x.all(2), 2);
    }

    private static void terms() {
        Check.about("promise 6");
        CounterDesk x = new CounterDesk();
        int[] first = {0, 1, 0, 0, 24};
        int[] most = {999, 10, 9, 24, 24};
        for (int t = 0; t < 5; t++) {
            Check.due("terms(" + t + ", too much)", x.terms(t, most[t] + 1), -1);
            Check.due("terms(" + t + ", -1)", x.terms(t, -1), -1);
            Check.due("terms(" + t + ", most)", x.terms(t, most[t]), first[t]);
            Check.due("status()", x.status(), 0);
            Check.due("terms(" + t + ", 0)", x.terms(t, 0), most[t]);
            Check.due("count(12 + " + t + ")", x.count(12 + t), 0);
        }
        Check.due("terms(5, 0)", x.terms(5, 0), -1);
        Check.due("terms(-1, 0)", x.terms(-1, 0), -1);
        Check.due("LOW beyond HIGH", x.terms(3, 24), 0);
    }

    private static void set() {
        Check.about("promise 16");
        CounterDesk x = Check.desk(1, 2, 3, 4);
        Check.due("set(0, 25) ", x.set(0, 25), -1);
        Check.due("set(0, -1) ", x.set(0, -1), -1);
        Check.due("set(7, 25): the first reason", x.set(7, 25), -1);
        Check.due("set(2, 0)", x.set(2, 0), -2);
        Check.due("set(-1, 0)", x.set(-1, 0), -2);
        Check.due("set(0, 2)", x.set(0, 2), -3);
        Check.due("status()", x.status(), -3);
        Check.due("count(4)", x.count(4), 0);
        Check.due("set(0, 24)", x.set(0, 24), 2);
        Check.due("status()", x.status(), 0);
        Check.due("of(0, 1)", x.of(0, 1), 24);
        Check.due("of(0, 0)", x.of(0, 0), 1);
        Check.due("count(4)", x.count(4), 1);
    }

    private static void shift() {
        Check.about("promise 17");
        CounterDesk x = Check.desk(1, 2, 3, 4);
        Check.due("shift(0, 25) ", x.shift(0, 25), -1);
        Check.due("shift(0, -1) ", x.shift(0, -1), -1);
        Check.due("shift(7, 25): the first reason", x.shift(7, 25), -1);
        Check.due("shift(2, 0)", x.shift(2, 0), -2);
        Check.due("shift(1, 3)", x.shift(1, 3), -3);
        Check.due("shift(1, 0)", x.shift(1, 0), 3);
        Check.due("of(1, 0)", x.of(1, 0), 0);
        Check.due("of(1, 1)", x.of(1, 1), 4);
        Check.due("count(4)", x.count(4), 1);
    }

    private static void swap() {
        Check.about("promise 18");
        CounterDesk x = new CounterDesk();
        Check.due("swap() of nothing", x.swap(), -3);
        x.note(1, 2);
        x.note(3, 4);
        Check.due("swap()", x.swap(), 2);
        Check.due("of(0, 0)", x.of(0, 0), 2);
        Check.due("of(0, 1)", x.of(0, 1), 1);
        Check.due("of(1, 0)", x.of(1, 0), 4);
        Check.due("of(1, 1)", x.of(1, 1), 3);
    }

    private static void pass() {
        Check.about("promise 19");
        CounterDesk x = Check.desk(0, 0, 0, 0, 0, 0);
        Check.inForce(x, "bars if place < day");
        for (int day = 0; day < 5; day++) {
            Check.due("pass() on day " + day, x.pass(), Math.min(day, 3));
        }
        Check.due("count(12)", x.count(12), 5);
        x.terms(0, 998);
        Check.due("pass() at 998", x.pass(), 3);
        Check.due("pass() at 999", x.pass(), -3);
        Check.due("count(12)", x.count(12), 999);
        Check.due("pass() without NOTES", new CounterDesk().pass(), 0);
    }

    private static void undo() {
        Check.about("promise 20");
        CounterDesk x = Check.desk(1, 2, 3, 4);
        Check.due("undo() of nothing", x.undo(), -3);
        x.set(0, 20);
        x.shift(1, 21);
        x.swap();
        x.pass();
        Check.due("count(4)", x.count(4), 4);
        Check.due("undo() of pass", x.undo(), 3);
        Check.due("count(12)", x.count(12), 0);
        Check.due("undo() of swap", x.undo(), 2);
        Check.due("of(0, 1)", x.of(0, 1), 20);
        Check.due("undo() of shift", x.undo(), 1);
        Check.due("of(1, 0)", x.of(1, 0), 3);
        Check.due("undo() of set", x.undo(), 0);
        Check.due("of(0, 1)", x.of(0, 1), 2);
        Check.due("undo() once more", x.undo(), -3);
        for (int i = 0; i < 18; i++) {
            x.set(1, 5 + i);
        }
        Check.due("count(4): 16 are kept", x.count(4), 16);
        for (int i = 0; i < 16; i++) {
            Check.due("undo() " + i, x.undo(), 0);
        }
        Check.due("undo() beyond 16", x.undo(), -3);
        Check.due("of(1, 1): two are left done", x.of(1, 1), 6);
    }

    private static void undoKeepsTheLatest() {
        Check.about("promise 20, 16 of all kinds");
        CounterDesk x = Check.desk(1, 2, 3, 4, 5, 6);
        x.set(2, 20);
        x.swap();
        x.pass();
        x.shift(1, 9);
        x.set(0, 8);
        for (int i = 0; i < 13; i++) {
            x.pass();
        }
        x.swap();
        for (int i = 0; i < 14; i++) {
            Check.due("undo() " + i, x.undo(), i == 0 ? 2 : 3);
        }
        Check.due("undo() of set", x.undo(), 0);
        Check.due("of(0, 1)", x.of(0, 1), 1);
        Check.due("undo() of shift", x.undo(), 1);
        Check.due("of(1, 0)", x.of(1, 0), 4);
        Check.due("undo() beyond 16", x.undo(), -3);
        Check.due("count(12)", x.count(12), 1);
        Check.due("of(2, 0)", x.of(2, 0), 20);
    }

    private static void undoIsForgotten() {
        Check.about("promise 20, what leaves what can be undone");
        CounterDesk x = Check.desk(1, 2);
        x.set(0, 3);
        x.note(25, 0);
        x.terms(0, -1);
        Check.tape(x, "");
        x.row();
        x.back(0);
        x.back(7);
        Check.law(x, "bars if 1=2");
        Check.law(x, "?");
        x.force(0);
        x.force(3);
        x.heard(0, 0);
        x.heard(9, 0);
        x.forget();
        x.image(0);
        x.weeks(5, 5);
        x.best(-1);
        Check.due("count(4) is left", x.count(4), 1);
        x.note(0, 0);
        Check.due("count(4) behind note()", x.count(4), 0);
        Check.due("undo() behind note()", x.undo(), -3);
        x.set(0, 4);
        x.terms(0, 0);
        Check.due("count(4) behind terms()", x.count(4), 0);
        x.set(0, 5);
        Check.tape(x, Check.bytes(99));
        Check.due("a row() of blots alone", x.row(), 0);
        Check.due("count(4) behind row()", x.count(4), 0);
        x.set(0, 6);
        x.back(0);
        Check.due("count(4) behind back()", x.count(4), 0);
        x.set(0, 9);
        for (int i = 0; i < 13; i++) {
            x.note(0, 0);
        }
        x.set(0, 10);
        Check.due("note() without room", x.note(0, 0), -5);
        Check.due("count(4) is left by it", x.count(4), 1);
    }
}
