/** What part I of the document and promises 1 to 6, 16 to 20 name as bounds: each at the edge, just inside, just outside. */
final class EdgesOfNotes {
    private static final int[] NO_PITCH = {-1, -2, 25, 26, 256, 281, Integer.MIN_VALUE, Integer.MAX_VALUE};
    private static final int[] SOME_PITCH = {0, 1, 23, 24};

    private EdgesOfNotes() {
    }

    static void run() {
        newObject();
        pitchesOfNote();
        twelveNotes();
        of();
        at();
        all();
        terms();
        termsThatCannotBe();
        move(true);
        move(false);
        swap();
        pass();
        sixteenAreKept();
        sixteenOfOrders();
        undoLeavesTheRest();
        whatForgetsWhatCanBeUndone();
        calls();
    }

    private static void newObject() {
        Check.about("promise 1: no NOTES");
        CounterDesk x = new CounterDesk();
        for (int n = -1; n < 13; n++) {
            Check.due("of(" + n + ", 0)", x.of(n, 0), -1);
            Check.due("at(" + n + ", 0)", x.at(n, 0), -1000);
        }
        for (int what = 0; what < 3; what++) {
            Check.due("all(" + what + ")", x.all(what), 0);
        }
        Check.due("status()", x.status(), 0);
        Check.due("undo()", x.undo(), -3);
        Check.due("back(0)", x.back(0), -2);
        Check.due("back(1)", x.back(1), -2);
        Check.due("few(1, 1): SLIPS are 1", x.few(1, 1), 900_000_000_000L);
    }

    private static void pitchesOfNote() {
        Check.about("a PITCH 0 .. 24, note()");
        for (int p : SOME_PITCH) {
            CounterDesk x = new CounterDesk();
            Check.due("note(" + p + ", 5)", x.note(p, 5), 0);
            Check.due("note(5, " + p + ")", x.note(5, p), 1);
            Check.due("of(0, 0)", x.of(0, 0), p);
            Check.due("of(0, 1)", x.of(0, 1), 5);
            Check.due("of(1, 0)", x.of(1, 0), 5);
            Check.due("of(1, 1)", x.of(1, 1), p);
        }
        for (int p : NO_PITCH) {
            Twins.refused("note(" + p + ", 5)", Twins::busy, x -> x.note(p, 5), -1);
            Twins.refused("note(5, " + p + ")", Twins::busy, x -> x.note(5, p), -1);
        }
        Twins.refused("note(-1, 25)", CounterDesk::new, x -> x.note(-1, 25), -1);
    }

    private static void twelveNotes() {
        Check.about("NOTES 0 .. 11 (12 at most)");
        CounterDesk x = new CounterDesk();
        for (int i = 0; i < 12; i++) {
            Check.due("note " + i, x.note(i, 12 + i), i);
            Check.due("count(0)", x.count(0), i + 1);
        }
        for (int i = 0; i < 12; i++) {
            Check.due("of(" + i + ", 0)", x.of(i, 0), i);
            Check.due("of(" + i + ", 1)", x.of(i, 1), 12 + i);
        }
        Twins.refused("a 13th note", Twins::full, y -> y.note(0, 0), -5);
        Twins.refused("a 13th note: the first of the reasons", Twins::full, y -> y.note(25, 0), -1);
        Twins.refused("a 13th note: the first of the reasons", Twins::full, y -> y.note(0, -1), -1);
    }

    private static void of() {
        Check.about("promise 3: NONE");
        int[] noNote = {-1, -2, 3, 4, 11, 12, 13, Integer.MIN_VALUE, Integer.MAX_VALUE};
        for (int n : noNote) {
            for (int what = 0; what < 5; what++) {
                int w = what;
                Twins.untold("of(" + n + ", " + w + ")", Twins::busy, x -> x.of(n, w), -1);
            }
        }
        int[] others = {-1, 5, 6, Integer.MIN_VALUE, Integer.MAX_VALUE};
        for (int what : others) {
            Twins.untold("of(0, " + what + ")", Twins::busy, x -> x.of(0, what), -1);
            Twins.untold("of(2, " + what + ")", Twins::busy, x -> x.of(2, what), -1);
        }
        CounterDesk x = Twins.full();
        int[] want = {11, 13, 5, 1, 0};
        for (int what = 0; what < 5; what++) {
            Check.due("of(11, " + what + ")", x.of(11, what), want[what]);
            Check.due("of(12, " + what + ")", x.of(12, what), -1);
        }
    }

    private static void at() {
        Check.about("promise 4: -1000, and the widest");
        int[] noNote = {-1, 3, 11, 12, Integer.MIN_VALUE, Integer.MAX_VALUE};
        for (int n : noNote) {
            Twins.untold("at(" + n + ", 0)", Twins::busy, x -> x.at(n, 0), -1000);
            Twins.untold("at(" + n + ", 1)", Twins::busy, x -> x.at(n, 1), -1000);
        }
        int[] others = {-1, 2, 3, Integer.MIN_VALUE, Integer.MAX_VALUE};
        for (int what : others) {
            Twins.untold("at(0, " + what + ")", Twins::busy, x -> x.at(0, what), -1000);
        }
        CounterDesk x = Check.desk(0, 24, 24, 0, 0, 24);
        int[][] want = {{24, 0}, {-24, -24}, {24, 24}};
        for (int n = 0; n < 3; n++) {
            Check.due("at(" + n + ", 0)", x.at(n, 0), want[n][0]);
            Check.due("at(" + n + ", 1): 0 of the first", x.at(n, 1), want[n][1]);
        }
        CounterDesk y = Twins.full();
        Check.due("at(11, 0)", y.at(11, 0), 2);
        Check.due("at(11, 1)", y.at(11, 1), -1);
        Check.due("at(12, 1)", y.at(12, 1), -1000);
    }

    private static void all() {
        Check.about("promise 5: NONE for others, none, the most");
        int[] others = {-1, 3, 4, Integer.MIN_VALUE, Integer.MAX_VALUE};
        for (int what : others) {
            Twins.untold("all(" + what + ")", Twins::busy, x -> x.all(what), -1);
            Twins.untold("all(" + what + ")", CounterDesk::new, x -> x.all(what), -1);
        }
        CounterDesk x = new CounterDesk();
        for (int i = 0; i < 12; i++) {
            x.note(0, 0);
        }
        Check.inForce(x, "costs 1000;earns 1000;bars");
        Check.due("all(0)", x.all(0), 12 * 999);
        Check.due("all(1)", x.all(1), 12 * 99);
        Check.due("all(2)", x.all(2), 12);
        Check.inForce(x, "costs 0;earns 0;bars if place=0-1");
        Check.due("all(0)", x.all(0), 0);
        Check.due("all(1)", x.all(1), 0);
        Check.due("all(2)", x.all(2), 0);
    }

    private static void terms() {
        Check.about("TERMS: 0 DAY 0 .. 999, 1 SLIPS 0 .. 10, 2 MOOD 0 .. 9, 3 LOW 0 .. 24, 4 HIGH 0 .. 24");
        int[] first = {0, 1, 0, 0, 24};
        int[] most = {999, 10, 9, 24, 24};
        for (int t = 0; t < 5; t++) {
            CounterDesk x = new CounterDesk();
            int[] row = {0, 1, most[t] - 1, most[t], 0};
            int was = first[t];
            for (int value : row) {
                Check.due("terms(" + t + ", " + value + ")", x.terms(t, value), was);
                Check.due("status()", x.status(), 0);
                Check.due("count(" + (12 + t) + ")", x.count(12 + t), value);
                was = value;
            }
            for (int other = 0; other < 5; other++) {
                Check.due("count(" + (12 + other) + ") is as at first", x.count(12 + other), other == t ? 0 : first[other]);
            }
            Check.due("the same once more is not REFUSED", x.terms(t, 0), 0);
            Check.due("status()", x.status(), 0);
        }
    }

    private static void termsThatCannotBe() {
        Check.about("promise 6: -1");
        int[] most = {999, 10, 9, 24, 24};
        for (int t = 0; t < 5; t++) {
            int term = t;
            int[] others = {-1, -1000, most[t] + 1, most[t] + 2, Integer.MIN_VALUE, Integer.MAX_VALUE};
            for (int value : others) {
                Twins.refused("terms(" + t + ", " + value + ")", Twins::busy, x -> x.terms(term, value), -1);
            }
        }
        int[] noTerm = {-1, 5, 6, Integer.MIN_VALUE, Integer.MAX_VALUE};
        for (int t : noTerm) {
            Twins.refused("terms(" + t + ", 0)", Twins::busy, x -> x.terms(t, 0), -1);
        }
    }

    private static int moved(CounterDesk x, boolean here, int note, int pitch) {
        return here ? x.set(note, pitch) : x.shift(note, pitch);
    }

    /** Promises 16 and 17, which are alike. */
    private static void move(boolean here) {
        String name = here ? "set" : "shift";
        int what = here ? 1 : 0;
        Check.about("promise " + (here ? 16 : 17));
        for (int p : SOME_PITCH) {
            CounterDesk x = Check.desk(9, 9, 10, 10);
            Check.due(name + "(1, " + p + ")", moved(x, here, 1, p), 10);
            Check.due("status()", x.status(), 0);
            Check.due("of(1, " + what + ")", x.of(1, what), p);
            Check.due("of(1, the other)", x.of(1, 1 - what), 10);
            Check.due("of(0, " + what + ")", x.of(0, what), 9);
            Check.due("there it can go no more", moved(x, here, 1, p), -3);
            Check.due("back to where it was", moved(x, here, 1, 10), p);
            Check.due("count(4)", x.count(4), 2);
        }
        for (int p : NO_PITCH) {
            Twins.refused(name + "(0, " + p + ")", Twins::busy, x -> moved(x, here, 0, p), -1);
            Twins.refused(name + "(3, " + p + "): the first of the reasons", Twins::busy, x -> moved(x, here, 3, p), -1);
        }
        int[] noNote = {-1, 3, 4, 11, 12, Integer.MIN_VALUE, Integer.MAX_VALUE};
        for (int n : noNote) {
            Twins.refused(name + "(" + n + ", 0)", Twins::busy, x -> moved(x, here, n, 0), -2);
        }
        Twins.refused(name + "(0, 0) without NOTES", CounterDesk::new, x -> moved(x, here, 0, 0), -2);
        Twins.refused(name + "(12, 24)", Twins::full, x -> moved(x, here, 12, 24), -2);
        for (int n = 0; n < 3; n++) {
            int note = n;
            Twins.refused(name + " of NOTE " + n + " to where it is", Twins::busy,
                x -> moved(x, here, note, x.of(note, what)), -3);
        }
        CounterDesk x = Twins.full();
        Check.due(name + "(11, 24)", moved(x, here, 11, 24), here ? 13 : 11);
        Check.due("count(4)", x.count(4), 16);
    }

    private static void swap() {
        Check.about("promise 18: -3 there are none");
        Twins.refused("swap() without NOTES", CounterDesk::new, CounterDesk::swap, -3);
        CounterDesk one = Check.desk(6, 6);
        Check.due("swap() of one that is the same", one.swap(), 1);
        Check.due("status()", one.status(), 0);
        Check.due("count(4)", one.count(4), 1);
        CounterDesk all = Twins.full();
        Check.due("swap() of twelve", all.swap(), 12);
        Check.due("of(11, 0)", all.of(11, 0), 13);
        Check.due("of(11, 1)", all.of(11, 1), 11);
        Check.due("of(0, 0)", all.of(0, 0), 16);
    }

    private static void pass() {
        Check.about("A DAY: at 999 it can't be");
        CounterDesk x = Check.desk(1, 1);
        x.terms(0, 997);
        Check.due("pass() at 997", x.pass(), 0);
        Check.due("pass() at 998", x.pass(), 0);
        Check.due("count(12)", x.count(12), 999);
        Check.due("pass() at 999", x.pass(), -3);
        Check.due("undo()", x.undo(), 3);
        Check.due("count(12)", x.count(12), 998);
        Check.due("pass() at 998 again", x.pass(), 0);
        Twins.refused("pass() at 999", () -> {
            CounterDesk y = Twins.busy();
            y.terms(0, 999);
            y.set(0, 3);
            y.swap();
            return y;
        }, CounterDesk::pass, -3);
        CounterDesk none = new CounterDesk();
        none.terms(0, 998);
        Check.due("pass() without NOTES at 998", none.pass(), 0);
        Check.due("pass() without NOTES at 999", none.pass(), -3);
        CounterDesk all = new CounterDesk();
        for (int i = 0; i < 12; i++) {
            all.note(0, 0);
        }
        Check.inForce(all, "bars if day>0");
        Check.due("pass() on DAY 0: ahead of it", all.pass(), 0);
        Check.due("pass() on DAY 1", all.pass(), 12);
    }

    private static void sixteenAreKept() {
        Check.about("promise 20: 16 are kept");
        for (int n = 0; n <= 18; n++) {
            CounterDesk x = Check.desk(1, 24);
            for (int i = 0; i < n; i++) {
                Check.due("set " + i, x.set(0, i), i == 0 ? 24 : i - 1);
                Check.due("count(4)", x.count(4), Math.min(16, i + 1));
            }
            for (int i = n - 1; i >= Math.max(0, n - 16); i--) {
                Check.due("undo() of " + i + " of " + n, x.undo(), 0);
                Check.due("of(0, 1)", x.of(0, 1), i == 0 ? 24 : i - 1);
                Check.due("status()", x.status(), 0);
            }
            Check.due("count(4)", x.count(4), 0);
            Check.due("undo() beyond", x.undo(), -3);
            Check.due("of(0, 1) is left", x.of(0, 1), n == 18 ? 1 : n == 17 ? 0 : 24);
        }
        Twins.refused("undo() of nothing", CounterDesk::new, CounterDesk::undo, -3);
        Twins.refused("undo() of nothing", () -> {
            CounterDesk x = Twins.busy();
            x.terms(0, 0);
            return x;
        }, CounterDesk::undo, -3);
    }

    private static void sixteenOfOrders() {
        Check.about("promise 20: by ORDERS, too");
        CounterDesk x = Check.desk(3, 4);
        Check.due("orders", Check.orders(x, "shift 0 to 9;pass times 15"), 16);
        Check.due("count(4)", x.count(4), 16);
        for (int i = 0; i < 15; i++) {
            Check.due("undo() " + i, x.undo(), 3);
        }
        Check.due("undo() of the first", x.undo(), 1);
        Check.due("of(0, 0)", x.of(0, 0), 3);
        Check.due("undo() of nothing", x.undo(), -3);
        Check.due("orders", Check.orders(x, "shift 0 to 9;pass times 16"), 17);
        for (int i = 0; i < 16; i++) {
            Check.due("undo() " + i, x.undo(), 3);
        }
        Check.due("undo(): the 17th is gone", x.undo(), -3);
        Check.due("of(0, 0)", x.of(0, 0), 9);
        Check.due("count(12)", x.count(12), 0);
    }

    private static void undoLeavesTheRest() {
        Check.about("promise 20: HERE, UNDER, DAY are as they were, nothing else");
        CounterDesk x = Check.desk(1, 2);
        x.set(0, 9);
        Check.law(x, "costs 5");
        x.force(0);
        x.heard(0, 8);
        x.heard(2, 5);
        x.feed(0, 0, 0, 0, 0);
        x.image(1);
        x.weeks(0, 1);
        int drawn = x.drawn(0, 1);
        Check.due("undo()", x.undo(), 0);
        Check.due("of(0, 1)", x.of(0, 1), 2);
        int[] want = {1, 0, 2, 1, 0, 20, 0, 0, 0, 0, 0, 0, 0, 1, 0, 0, 24};
        for (int what = 0; what < want.length; what++) {
            Check.due("count(" + what + ")", x.count(what), want[what]);
        }
        Check.due("drawn(0, 1)", x.drawn(0, 1), drawn);
        Check.due("back(1)", x.back(1), 0);
        Check.due("of(0, 1)", x.of(0, 1), 9);
        Check.due("undo(): nothing that was ahead of back()", x.undo(), -3);
    }

    private static void whatForgetsWhatCanBeUndone() {
        Check.about("promise 20: note(), terms(), row(), back() that was not REFUSED");
        Twins.Call[] calls = {x -> x.note(0, 0), x -> x.terms(2, 6), x -> x.row(), x -> x.back(0)};
        int[] told = {3, 6, 1, 0};
        for (int i = 0; i < calls.length; i++) {
            CounterDesk x = Twins.busy();
            Check.due("count(4) ahead of call " + i, x.count(4), 4);
            Check.due("call " + i, calls[i].of(x), told[i]);
            Check.due("count(4) behind call " + i, x.count(4), 0);
            Check.due("undo() behind call " + i, x.undo(), -3);
            Check.due("set()", x.set(0, 0) >= 0 ? 1 : 0, 1);
            Check.due("what is done then can be undone", x.undo(), 0);
            Check.due("undo() once more", x.undo(), -3);
        }
        Twins.Call[] others = {x -> x.image(1), x -> x.heard(0, 0), x -> x.forget(), x -> x.force(0), x -> x.weeks(1, 1),
            x -> x.end(0), x -> x.feed(0, 0, 0, 0, 0), x -> Check.law(x, "bars"), x -> Check.law(x, "?"),
            x -> Check.orders(x, "?"), x -> Check.orders(x, "pass if 1=2"), x -> Check.orders(x, "set 9 to 9")};
        for (int i = 0; i < others.length; i++) {
            CounterDesk x = Twins.busy();
            others[i].of(x);
            Check.due("count(4) behind other call " + i, x.count(4), 4);
            Check.due("undo() behind other call " + i, x.undo(), 3);
        }
    }

    private static void calls() {
        Check.about("An object is used for at most 512 calls");
        CounterDesk x = new CounterDesk();
        x.note(1, 1);
        for (int i = 1; i < 511; i += 2) {
            x.pass();
            x.undo();
        }
        Check.due("the 512th call", x.pass(), 0);
        CounterDesk laws = new CounterDesk();
        laws.image(0);
        for (int i = 1; i + 4 <= 512; i += 4) {
            laws.feed(0x62617273, 0x20202020, 0x20202020, 0x20202020, 0x20202020);
            Check.due("law()", laws.law(), 0);
            laws.force(0);
            laws.back(0);
        }
    }
}
