import java.util.Arrays;
import java.util.Set;

/** The bounds of part IV and of what is kept and counted: promises 36 to 41. */
final class EdgesOfKeeping {
    private EdgesOfKeeping() {
    }

    static void run() {
        seedsAndWeeks();
        weeksByHand();
        weeksToTheLastDay();
        weeksOnPaper();
        drawnOthers();
        drawnIsOfTheLatest();
        image();
        back();
        backToTheFull();
        whatBackLeaves();
        count();
        countsRefused();
        status();
        statusOfOthers();
    }

    private static void seedsAndWeeks() {
        Check.about("promise 36: SEED 0 .. 1,000,000, n 1 .. 60: -1; -3 there are no NOTES");
        int[] noSeed = {-1, -2, 1_000_001, 1_000_002, 1_000_003, Integer.MIN_VALUE, Integer.MAX_VALUE};
        for (int s : noSeed) {
            Twins.refused("weeks(" + s + ", 1)", Twins::busy, x -> x.weeks(s, 1), -1);
            Twins.refused("weeks(" + s + ", 1) without NOTES: the first of the reasons", CounterDesk::new, x -> x.weeks(s, 1), -1);
        }
        int[] noWeeks = {0, -1, 61, 62, Integer.MIN_VALUE, Integer.MAX_VALUE};
        for (int n : noWeeks) {
            Twins.refused("weeks(5, " + n + ")", Twins::busy, x -> x.weeks(5, n), -1);
            Twins.refused("weeks(5, " + n + ") without NOTES: the first of the reasons", CounterDesk::new, x -> x.weeks(5, n), -1);
        }
        int[] seeds = {0, 1, 999_999, 1_000_000};
        int[] weeks = {1, 2, 59, 60};
        for (int s : seeds) {
            for (int n : weeks) {
                Twins.refused("weeks(" + s + ", " + n + ") without NOTES", CounterDesk::new, x -> x.weeks(s, n), -3);
                CounterDesk x = Check.desk(1, 1);
                Check.inForce(x, "bars");
                Check.due("weeks(" + s + ", " + n + ")", x.weeks(s, n), n);
                Check.due("status()", x.status(), 0);
            }
        }
    }

    /** What so many WEEKS come to, from the words of the document. */
    private static void byHand(int seed, int n, int[] under, int[] here) {
        int[] u = under.clone();
        int[] h = here.clone();
        CounterDesk x = new CounterDesk();
        for (int i = 0; i < u.length; i++) {
            x.note(u[i], h[i]);
        }
        Check.inForce(x, "bars if here>under+day%3");
        long s = seed;
        int barred = 0;
        for (int day = 0; day < n; day++) {
            s = (s * 1103 + 12345) % 1_000_003;
            int note = (int) (s % u.length);
            s = (s * 1103 + 12345) % 1_000_003;
            int pitch = (int) (s % 25);
            s = (s * 1103 + 12345) % 1_000_003;
            int what = (int) (s % 4);
            if (what < 2) {
                h[note] = pitch;
            } else if (what == 2) {
                u[note] = pitch;
            } else {
                int[] was = u;
                u = h;
                h = was;
            }
            for (int i = 0; i < u.length; i++) {
                barred += h[i] > u[i] + day % 3 ? 1 : 0;
            }
        }
        String call = "weeks(" + seed + ", " + n + ")";
        Check.due(call, x.weeks(seed, n), barred);
        for (int i = 0; i < u.length; i++) {
            Check.due(call + ", drawn(" + i + ", 0)", x.drawn(i, 0), u[i]);
            Check.due(call + ", drawn(" + i + ", 1)", x.drawn(i, 1), h[i]);
        }
        Check.due(call + ", drawn of no NOTE", x.drawn(u.length, 0), -1);
    }

    private static void weeksByHand() {
        Check.about("a DRAW of m: s becomes (s times 1103 and 12345) modulo 1,000,003");
        int[] seeds = {0, 1, 2, 895, 896, 999_998, 999_999, 1_000_000};
        int[] weeks = {1, 2, 3, 30, 59, 60};
        for (int seed : seeds) {
            for (int n : weeks) {
                byHand(seed, n, new int[] {24}, new int[] {0});
                byHand(seed, n, new int[] {0, 5, 24}, new int[] {7, 7, 7});
                byHand(seed, n, new int[] {0, 1, 2, 3, 4, 5, 6, 7, 8, 9, 10, 11}, new int[] {24, 0, 1, 2, 3, 4, 5, 6, 7, 8, 9, 10});
            }
        }
    }

    private static void weeksToTheLastDay() {
        Check.about("as long as DAY is below 999");
        int[] days = {0, 938, 939, 940, 941, 997, 998, 999};
        for (int day : days) {
            CounterDesk x = Check.desk(3, 3, 4, 4);
            Check.inForce(x, "bars");
            x.terms(0, day);
            for (int n : new int[] {1, 2, 59, 60}) {
                Check.due("weeks(9, " + n + ") from DAY " + day, x.weeks(9, n), 2 * Math.min(n, 999 - day));
                Check.due("status()", x.status(), 0);
                Check.due("count(12)", x.count(12), day);
            }
        }
        CounterDesk x = Check.desk(3, 9, 4, 8);
        x.terms(0, 998);
        x.weeks(77, 60);
        CounterDesk y = Check.desk(3, 9, 4, 8);
        y.weeks(77, 1);
        for (int i = 0; i < 2; i++) {
            Check.due("drawn(" + i + ", 0): one WEEK alone", x.drawn(i, 0), y.drawn(i, 0));
            Check.due("drawn(" + i + ", 1): one WEEK alone", x.drawn(i, 1), y.drawn(i, 1));
        }
        x.terms(0, 999);
        Check.due("weeks(77, 60) at 999", x.weeks(77, 60), 0);
        Check.due("drawn(0, 0): as it is", x.drawn(0, 0), 3);
        Check.due("drawn(0, 1): as it is", x.drawn(0, 1), 9);
        Check.due("drawn(1, 1): as it is", x.drawn(1, 1), 8);
        Check.inForce(x, "bars if day=998");
        x.terms(0, 990);
        Check.due("weeks(1, 60): DAY 998 is told", x.weeks(1, 60), 2);
        Check.due("weeks(1, 9): DAY 998 is told", x.weeks(1, 9), 2);
        Check.due("weeks(1, 8): DAY 998 is not told", x.weeks(1, 8), 0);
    }

    private static void weeksOnPaper() {
        Check.about("WEEKS, on paper");
        CounterDesk x = Twins.busy();
        CounterDesk y = Twins.busy();
        x.weeks(123, 60);
        String[] drawn = new String[24];
        for (int i = 0; i < 12; i++) {
            drawn[2 * i] = "drawn(" + i + ", 0)";
            drawn[2 * i + 1] = "drawn(" + i + ", 1)";
        }
        Twins.alike("weeks(123, 60)", x, y, Set.copyOf(Arrays.asList(drawn)));
    }

    private static void drawnOthers() {
        Check.about("promise 37: NONE");
        int[] others = {-1, 2, 3, Integer.MIN_VALUE, Integer.MAX_VALUE};
        for (int what : others) {
            Twins.untold("drawn(0, " + what + ")", Twins::busy, x -> x.drawn(0, what), -1);
        }
        int[] noNote = {-1, 2, 3, 11, 12, Integer.MIN_VALUE, Integer.MAX_VALUE};
        for (int n : noNote) {
            Twins.untold("drawn(" + n + ", 0)", Twins::busy, x -> x.drawn(n, 0), -1);
            Twins.untold("drawn(" + n + ", 1)", Twins::busy, x -> x.drawn(n, 1), -1);
        }
        CounterDesk x = Check.desk(1, 2);
        Check.due("drawn(0, 0) ahead of any", x.drawn(0, 0), -1);
        Check.due("drawn(0, 1) ahead of any", x.drawn(0, 1), -1);
        x.weeks(0, 0);
        x.weeks(-1, 1);
        Check.due("drawn(0, 0) behind those that were REFUSED", x.drawn(0, 0), -1);
        CounterDesk full = Twins.full();
        full.terms(0, 999);
        full.weeks(1, 1);
        Check.due("drawn(11, 0)", full.drawn(11, 0), 11);
        Check.due("drawn(11, 1)", full.drawn(11, 1), 13);
        Check.due("drawn(12, 0)", full.drawn(12, 0), -1);
        Check.due("drawn(12, 1)", full.drawn(12, 1), -1);
    }

    private static void drawnIsOfTheLatest() {
        Check.about("promise 37: the latest WEEKS, whatever came behind them");
        CounterDesk x = Check.desk(1, 2);
        x.image(0);
        x.note(3, 4);
        x.terms(0, 999);
        x.weeks(0, 1);
        x.terms(0, 0);
        x.set(0, 20);
        x.shift(1, 21);
        x.swap();
        x.note(5, 6);
        x.weeks(0, 61);
        x.image(1);
        x.back(0);
        int[][] want = {{1, 2}, {3, 4}, {-1, -1}};
        for (int i = 0; i < 3; i++) {
            Check.due("drawn(" + i + ", 0)", x.drawn(i, 0), want[i][0]);
            Check.due("drawn(" + i + ", 1)", x.drawn(i, 1), want[i][1]);
        }
        x.terms(0, 999);
        x.weeks(0, 1);
        Check.due("drawn(1, 0) behind later WEEKS", x.drawn(1, 0), -1);
        Check.due("drawn(0, 0) behind later WEEKS", x.drawn(0, 0), 1);
    }

    private static void image() {
        Check.about("promise 38: IMAGES 0, 1; -1");
        int[] others = {-1, -2, 2, 3, Integer.MIN_VALUE, Integer.MAX_VALUE};
        for (int k : others) {
            Twins.refused("image(" + k + ")", Twins::busy, x -> x.image(k), -1);
            Twins.refused("image(" + k + ")", CounterDesk::new, x -> x.image(k), -1);
        }
        for (int k = 0; k < 2; k++) {
            CounterDesk x = new CounterDesk();
            Check.due("image(" + k + ") of nothing", x.image(k), 0);
            Check.due("status()", x.status(), 0);
            Check.due("back to the other", x.back(1 - k), -2);
            x.note(1, 1);
            Check.due("back(" + k + ") to nothing", x.back(k), 0);
            Check.due("count(0)", x.count(0), 0);
            x.note(2, 3);
            Check.due("image(" + k + ") again", x.image(k), 0);
            x.set(0, 9);
            x.back(k);
            Check.due("of(0, 1)", x.of(0, 1), 3);
        }
    }

    private static void back() {
        Check.about("promise 39: -1; -2 it was not kept");
        int[] others = {-1, -2, 2, 3, Integer.MIN_VALUE, Integer.MAX_VALUE};
        for (int k : others) {
            Twins.refused("back(" + k + ")", Twins::busy, x -> x.back(k), -1);
            Twins.refused("back(" + k + ")", CounterDesk::new, x -> x.back(k), -1);
        }
        Twins.refused("back(1)", Twins::busy, x -> x.back(1), -2);
        Twins.refused("back(0)", CounterDesk::new, x -> x.back(0), -2);
        Twins.refused("back(1)", CounterDesk::new, x -> x.back(1), -2);
        Twins.refused("back(0)", Twins::full, x -> x.back(0), -2);
        CounterDesk x = Twins.busy();
        Check.due("back(0)", x.back(0), 0);
        Check.due("back(0) again", x.back(0), 0);
        Check.due("status()", x.status(), 0);
        int[] want = {2, 0, 1, 1, 0, 3, 0, 0, 1, 0, 1, -1, 0, 4, 6, 2, 21};
        for (int what = 0; what < want.length; what++) {
            Check.due("count(" + what + ")", x.count(what), want[what]);
        }
    }

    private static void backToTheFull() {
        Check.about("promise 39 of all there is room for");
        CounterDesk x = Twins.full();
        x.image(1);
        for (int i = 0; i < 12; i++) {
            x.shift(i, i + 1);
            x.set(i, 2);
        }
        x.terms(0, 5);
        x.forget();
        x.force(-1);
        Check.due("back(1)", x.back(1), 0);
        for (int i = 0; i < 12; i++) {
            Check.due("of(" + i + ", 0)", x.of(i, 0), i);
            Check.due("of(" + i + ", 1)", x.of(i, 1), i == 0 ? 16 : 24 - i);
        }
        int[] want = {12, 0, 6, 6, 0, 400, 0, 0, 0, 0, 0, 5, 0, 1, 0, 0, 24};
        for (int what = 0; what < want.length; what++) {
            Check.due("count(" + what + ")", x.count(what), want[what]);
        }
        Check.due("of(3, 2)", x.of(3, 2), 5);
        Check.due("a 13th note", x.note(0, 0), -5);
        Check.due("a seventh heard", x.heard(0, 0), -5);
        Check.due("a seventh law", x.law(), -5);
    }

    private static void whatBackLeaves() {
        Check.about("IMAGES keep all but the TAPE, FAULT, BLOTS, where ORDERS stopped, what can be undone, the latest WEEKS");
        CounterDesk x = Check.desk(1, 2);
        x.set(0, 3);
        x.image(0);
        Check.due("count(4): image() leaves it", x.count(4), 1);
        Check.tape(x, Check.bytes(9, 9, 9));
        x.row();
        Check.law(x, "bars ?");
        Check.orders(x, "pass;set 0 to 25");
        Check.law(x, "bars ?");
        x.weeks(5, 1);
        int[] drawn = {x.drawn(0, 0), x.drawn(0, 1), x.drawn(1, 0), x.drawn(1, 1)};
        x.set(0, 4);
        x.feed(0, 0, 0, 0, 0);
        x.end(7);
        Check.due("back(0)", x.back(0), 0);
        Check.due("count(5)", x.count(5), 7);
        Check.due("fault()", x.fault(), 5);
        Check.due("blots()", x.blots(), 1);
        Check.due("stopped()", x.stopped(), 1);
        Check.due("count(4)", x.count(4), 0);
        Check.due("undo()", x.undo(), -3);
        Check.due("of(0, 1)", x.of(0, 1), 3);
        for (int i = 0; i < 4; i++) {
            Check.due("drawn(" + i / 2 + ", " + i % 2 + ")", x.drawn(i / 2, i % 2), drawn[i]);
        }
        Check.due("count(6)", x.count(6), 0);
        Check.due("count(8): IMAGES do not keep that", x.count(8), 2);
        Check.due("count(10): IMAGES do not keep that", x.count(10), 2);
    }

    private static void count() {
        Check.about("promise 40: NONE for others");
        int[] others = {-1, -2, 17, 18, Integer.MIN_VALUE, Integer.MAX_VALUE};
        for (int what : others) {
            Twins.untold("count(" + what + ")", Twins::busy, x -> x.count(what), -1);
            Twins.untold("count(" + what + ")", CounterDesk::new, x -> x.count(what), -1);
        }
        int[] full = {12, 0, 6, 6, 16, 400, 0, 0, 0, 0, 0, 5, 0, 1, 0, 0, 24};
        int[] busy = {3, 1, 2, 2, 4, 3, 0, 0, 1, 0, 1, 1, 1, 4, 6, 2, 21};
        CounterDesk x = Twins.full();
        CounterDesk y = Twins.busy();
        for (int what = 0; what < 17; what++) {
            Check.due("count(" + what + ") of all", x.count(what), full[what]);
            Check.due("count(" + what + ") of some", y.count(what), busy[what]);
        }
    }

    private static void countsRefused() {
        Check.about("promise 40: how many calls were REFUSED by -1, -2, -3, -5, -6");
        CounterDesk x = Twins.fullWithoutTape();
        Twins.Call[] calls = {y -> y.note(25, 0), y -> y.force(6), y -> y.set(0, y.of(0, 1)), y -> y.note(0, 0), y -> y.row()};
        int[] want = {0, 0, 0, 0, 0};
        for (int times = 1; times <= 8; times++) {
            for (int c = 0; c < calls.length; c++) {
                calls[c].of(x);
                want[c]++;
                for (int slot = 0; slot < 5; slot++) {
                    Check.due("count(" + (6 + slot) + ")", x.count(6 + slot), want[slot]);
                }
            }
        }
    }

    private static void status() {
        Check.about("promise 41: of each call that can be REFUSED");
        Twins.Call[] refused = {x -> x.note(-1, 0), x -> x.terms(0, -1), x -> x.row(), x -> Check.law(x, "?"), x -> Check.orders(x, "?"),
            x -> x.force(3), x -> x.set(0, 25), x -> x.shift(3, 0), x -> x.set(0, 3), x -> x.undo(),
            x -> x.heard(4, 4), x -> x.weeks(0, 0), x -> x.image(2), x -> x.back(1)};
        int[] why = {-1, -1, -6, -6, -6, -2, -1, -2, -3, -3, -1, -1, -1, -2};
        Twins.Call[] done = {x -> x.note(1, 1), x -> x.terms(0, 5), x -> Check.law(x, "bars if 1=2"), x -> Check.orders(x, "pass"),
            x -> x.force(-1), x -> x.set(0, 5), x -> x.shift(0, 6), x -> x.swap(), x -> x.pass(), x -> x.undo(), x -> x.heard(0, 0),
            x -> x.weeks(0, 1), x -> x.image(0), x -> x.back(0)};
        for (int d = 0; d < done.length; d++) {
            CounterDesk x = Check.desk(9, 3);
            x.image(0);
            x.set(0, 8);
            x.note(25, 25);
            Check.due("status() ahead of call " + d, x.status(), -1);
            Check.due("call " + d, done[d].of(x) >= (d == 4 ? -1 : 0) ? 1 : 0, 1);
            Check.due("status() behind call " + d, x.status(), 0);
        }
        for (int r = 0; r < refused.length; r++) {
            CounterDesk x = Check.desk(9, 3);
            Check.due("call " + r, refused[r].of(x), why[r]);
            Check.due("status() behind call " + r, x.status(), why[r]);
            x.set(0, 4);
            Check.due("status() behind another one", x.status(), 0);
        }
        CounterDesk none = new CounterDesk();
        Check.due("status() ahead of any", none.status(), 0);
        none.swap();
        Check.due("status() behind swap()", none.status(), -3);
        none.terms(0, 999);
        Check.due("status() behind terms()", none.status(), 0);
        none.pass();
        Check.due("status() behind pass()", none.status(), -3);
        Check.tape(none, Check.bytes(99));
        none.row();
        Check.due("status() behind row() of BLOTS alone", none.status(), 0);
    }

    private static void statusOfOthers() {
        Check.about("promise 41: other calls leave it");
        Twins.Call[] others = {x -> x.of(0, 0), x -> x.of(9, 9), x -> x.at(0, 0), x -> x.at(9, 9), x -> x.all(0), x -> x.all(9),
            x -> x.feed(0, 0, 0, 0, 0), x -> x.end(0), x -> x.end(-1), x -> x.blots(), x -> x.fault(), x -> x.stopped(), x -> x.best(-1),
            x -> x.best(9), x -> x.between(0, 0), x -> x.between(-1, 25), x -> x.richest(), x -> x.ways(), x -> x.mend(-1), x -> x.mend(9),
            x -> x.compass(0), x -> x.compass(9), x -> x.cheapest(0, 0), x -> x.cheapest(9, 9), x -> x.canon(1, -1), x -> x.canon(0, 0),
            x -> x.parallels(0), x -> x.parallels(12), x -> x.forget(), x -> x.canBe(), x -> x.listen(0), x -> x.listen(9),
            x -> x.few(1, 1), x -> x.few(0, 0), x -> x.compare(-1), x -> x.compare(9), x -> x.drawn(0, 0), x -> x.drawn(9, 9),
            x -> x.count(0), x -> x.count(99), x -> x.status()};
        CounterDesk after = Twins.busy();
        CounterDesk behind = Check.desk(1, 1, 2, 2);
        for (int i = 0; i < others.length; i++) {
            others[i].of(after);
            Check.due("status() behind call " + i, after.status(), -6);
            others[i].of(behind);
            Check.due("status() behind call " + i, behind.status(), 0);
        }
    }
}
