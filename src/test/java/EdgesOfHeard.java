import java.math.BigInteger;

/** The bounds of what is HEARD and of what slips: promises 30 to 34. */
final class EdgesOfHeard {
    private EdgesOfHeard() {
    }

    static void run() {
        sixAreHeard();
        whatCanBeHeard();
        forget();
        canBe();
        canBeAtTheMost();
        listen();
        listenToFew();
        few();
        fewOthers();
        fewBySlips();
    }

    private static void sixAreHeard() {
        Check.about("HEARD, 6 at most");
        CounterDesk x = new CounterDesk();
        for (int i = 1; i <= 6; i++) {
            Check.due("heard " + i, x.heard(i % 4, i), i);
            Check.due("status()", x.status(), 0);
            Check.due("count(2)", x.count(2), i);
        }
        Check.due("a seventh", x.heard(0, 0), -5);
        Check.due("count(2)", x.count(2), 6);
        Twins.refused("a seventh", Twins::full, y -> y.heard(0, 0), -5);
        Twins.refused("a seventh that can't be: the first of the reasons", Twins::full, y -> y.heard(4, 0), -1);
        Twins.refused("a seventh that can't be: the first of the reasons", Twins::full, y -> y.heard(0, 1000), -1);
        x.forget();
        Check.due("there is room behind forget()", x.heard(0, 0), 1);
    }

    private static void whatCanBeHeard() {
        Check.about("promise 30: -1 (a FACT 0 .. 3, n -24 .. 999)");
        int[] facts = {-1, -2, 4, 5, Integer.MIN_VALUE, Integer.MAX_VALUE};
        for (int fact : facts) {
            Twins.refused("heard(" + fact + ", 0)", Twins::busy, x -> x.heard(fact, 0), -1);
        }
        int[] cannot = {-25, -26, -1000, 1000, 1001, Integer.MIN_VALUE, Integer.MAX_VALUE};
        for (int n : cannot) {
            for (int fact = 0; fact < 4; fact++) {
                int f = fact;
                Twins.refused("heard(" + fact + ", " + n + ")", Twins::busy, x -> x.heard(f, n), -1);
            }
        }
        int[] can = {-24, -23, -1, 0, 1, 24, 25, 99, 100, 998, 999};
        for (int n : can) {
            for (int fact = 0; fact < 4; fact++) {
                CounterDesk x = new CounterDesk();
                Check.due("heard(" + fact + ", " + n + ")", x.heard(fact, n), 1);
            }
        }
    }

    private static void forget() {
        Check.about("promise 31: how often there was");
        for (int n = 0; n <= 6; n++) {
            CounterDesk x = Check.desk(1, 1);
            for (int i = 0; i < n; i++) {
                x.heard(3, 999);
            }
            Check.due("canBe()", x.canBe(), n == 0 ? 1 : 0);
            Check.due("forget() of " + n, x.forget(), n);
            Check.due("canBe()", x.canBe(), 1);
            Check.due("count(2)", x.count(2), 0);
            Check.due("forget() once more", x.forget(), 0);
            Check.due("status()", x.status(), 0);
        }
        CounterDesk x = Twins.busy();
        Check.due("forget()", x.forget(), 2);
        Check.due("status(): it is of another call", x.status(), -6);
        Check.due("count(4)", x.count(4), 4);
    }

    private static void canBe() {
        Check.about("IT CAN BE: NOTES that are so at all that was HEARD; 0 of the first");
        CounterDesk none = new CounterDesk();
        Check.due("canBe() without NOTES", none.canBe(), 0);
        none.heard(0, 0);
        Check.due("canBe() without NOTES", none.canBe(), 0);
        CounterDesk x = new CounterDesk();
        for (int i = 0; i < 12; i++) {
            x.note(0, i);
        }
        Check.due("canBe() of nothing HEARD", x.canBe(), 4095);
        int[][] facts = {{1, 1, 4094}, {1, 0, 1}, {2, 0, 1}, {2, 1, 4094}, {3, 1, 4095}, {3, 0, 0}, {0, 0, 1}, {0, 11, 2048}, {0, 12, 0}};
        for (int[] f : facts) {
            x.heard(f[0], f[1]);
            Check.due("canBe() by " + f[0] + " of " + f[1], x.canBe(), f[2]);
            x.forget();
        }
        for (int i = 0; i < 5; i++) {
            x.heard(1, 1);
        }
        Check.due("canBe() by five", x.canBe(), 4094);
        x.heard(0, 11);
        Check.due("canBe() by six: the sixth, too", x.canBe(), 2048);
        x.forget();
        x.heard(0, 3);
        x.heard(0, 4);
        Check.due("canBe() of what can't be", x.canBe(), 0);
    }

    private static void canBeAtTheMost() {
        Check.about("IT CAN BE, n at its bounds");
        CounterDesk x = Check.desk(24, 0, 0, 24, 24, 0);
        int[][] facts = {{0, -24, 5}, {0, 24, 2}, {1, 24, 2}, {1, -24, 4}, {1, 0, 1}, {2, 24, 6}, {2, -24, 0}};
        for (int[] f : facts) {
            x.heard(f[0], f[1]);
            Check.due("canBe() by " + f[0] + " of " + f[1], x.canBe(), f[2]);
            x.forget();
        }
        Check.inForce(x, "costs 1000;earns 1000 if place=1");
        int[][] byLaw = {{2, 999, 7}, {2, 998, 0}, {3, 99, 2}, {3, 1, 5}, {3, 100, 0}};
        for (int[] f : byLaw) {
            x.heard(f[0], f[1]);
            Check.due("canBe() by " + f[0] + " of " + f[1], x.canBe(), f[2]);
            x.forget();
        }
    }

    private static void listen() {
        Check.about("promise 33: NONE (it can be none); others");
        int[] others = {-1, 2, 3, Integer.MIN_VALUE, Integer.MAX_VALUE};
        for (int what : others) {
            Twins.untold("listen(" + what + ")", Twins::full, x -> x.listen(what), -1);
            CounterDesk x = Check.desk(1, 1);
            Check.due("listen(" + what + ")", x.listen(what), -1);
        }
        for (int what = 0; what < 2; what++) {
            int w = what;
            Twins.untold("listen(" + what + ") without NOTES", CounterDesk::new, x -> x.listen(w), -1);
            Twins.untold("listen(" + what + ") if it can be none", () -> {
                CounterDesk x = Twins.busy();
                x.heard(3, 77);
                return x;
            }, x -> x.listen(w), -1);
        }
    }

    private static void listenToFew() {
        Check.about("To LISTEN for: as few as can be; the lowest");
        CounterDesk one = Check.desk(3, 9);
        Check.due("listen(0) of one", one.listen(0), 0);
        Check.due("listen(1) of one", one.listen(1), 1);
        CounterDesk x = new CounterDesk();
        for (int i = 0; i < 12; i++) {
            x.note(5, 5);
        }
        Check.due("listen(0) of twelve that are alike", x.listen(0), 0);
        Check.due("listen(1) of twelve that are alike", x.listen(1), 12);
        String[] laws = {"earns place", "costs place;earns place", "costs place;earns place%2", "costs place%2;earns place%3", "costs 7;earns place/11"};
        int[] fact = {3, 2, 2, 3, 3};
        int[] most = {1, 1, 1, 4, 11};
        for (int k = 0; k < laws.length; k++) {
            Check.inForce(x, laws[k]);
            Check.due("listen(0) by " + laws[k], x.listen(0), fact[k]);
            Check.due("listen(1) by " + laws[k], x.listen(1), most[k]);
        }
        x.set(11, 6);
        Check.due("listen(0): APART is the lowest", x.listen(0), 0);
        Check.due("listen(1)", x.listen(1), 11);
        x.heard(1, 1);
        Check.due("listen(0) of the last alone", x.listen(0), 0);
        Check.due("listen(1) of the last alone", x.listen(1), 1);
    }

    private static long fewest(int slips, int k, int n) {
        BigInteger[] parts = new BigInteger[n + 2];
        java.util.Arrays.fill(parts, BigInteger.ZERO);
        parts[0] = BigInteger.valueOf(1_000_000_000_000L);
        for (int note = 0; note < n; note++) {
            for (int j = n; j >= 0; j--) {
                BigInteger rest = parts[j].multiply(BigInteger.valueOf(10 - slips)).divide(BigInteger.TEN);
                BigInteger more = j == 0 ? BigInteger.ZERO : parts[j - 1].multiply(BigInteger.valueOf(slips)).divide(BigInteger.TEN);
                parts[j] = rest.add(more);
            }
        }
        BigInteger sum = BigInteger.ZERO;
        for (int j = 0; j < Math.min(k, n + 1); j++) {
            sum = sum.add(parts[j]);
        }
        return sum.longValueExact();
    }

    private static void few() {
        Check.about("promise 34: k 1 .. 20, n 0 .. 99");
        int[] slips = {0, 1, 2, 5, 7, 9, 10};
        int[] ns = {0, 1, 2, 3, 18, 19, 20, 21, 50, 98, 99};
        for (int s : slips) {
            CounterDesk x = new CounterDesk();
            x.terms(1, s);
            for (int k : new int[] {1, 2, 3, 10, 19, 20}) {
                for (int n : ns) {
                    Check.due("few(" + k + ", " + n + ") of SLIPS " + s, x.few(k, n), fewest(s, k, n));
                }
            }
            Check.due("few(1, 0): none can slip", x.few(1, 0), 1_000_000_000_000L);
            Check.due("few(20, 0): none can slip", x.few(20, 0), 1_000_000_000_000L);
        }
    }

    private static void fewOthers() {
        Check.about("promise 34: NONE");
        int[] noK = {0, -1, -2, 21, 22, Integer.MIN_VALUE, Integer.MAX_VALUE};
        for (int k : noK) {
            Twins.untold("few(" + k + ", 5)", Twins::busy, x -> x.few(k, 5), -1);
            Twins.untold("few(" + k + ", 0)", Twins::busy, x -> x.few(k, 0), -1);
        }
        int[] noN = {-1, -2, 100, 101, Integer.MIN_VALUE, Integer.MAX_VALUE};
        for (int n : noN) {
            Twins.untold("few(1, " + n + ")", Twins::busy, x -> x.few(1, n), -1);
            Twins.untold("few(20, " + n + ")", Twins::busy, x -> x.few(20, n), -1);
        }
    }

    private static void fewBySlips() {
        Check.about("promise 34: SLIPS 0, 10");
        CounterDesk x = new CounterDesk();
        x.terms(1, 0);
        Check.due("few(1, 99) without SLIPS", x.few(1, 99), 1_000_000_000_000L);
        x.terms(1, 10);
        for (int n = 0; n < 25; n++) {
            for (int k = 1; k <= 20; k++) {
                if (k == 1 || k == 20 || k == n || k == n + 1) {
                    Check.due("few(" + k + ", " + n + ") of SLIPS alone", x.few(k, n), n < k ? 1_000_000_000_000L : 0);
                }
            }
        }
        x.terms(1, 5);
        Check.due("few(1, 1) of one half", x.few(1, 1), 500_000_000_000L);
        Check.due("few(2, 2)", x.few(2, 2), 750_000_000_000L);
        Check.due("few(1, 12): no cut yet", x.few(1, 12), 244_140_625L);
        Check.due("few(1, 13): the first that is cut", x.few(1, 13), 122_070_312L);
        // Of the 13 parts of 12 notes four are odd (1, 495 and once more the same, times 244,140,625); each loses one half twice.
        Check.due("few(14, 13): what is cut is lost", x.few(14, 13), 1_000_000_000_000L - 4);
    }
}
