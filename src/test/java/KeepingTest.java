/** Promises 36 to 41: WEEKS, IMAGES, counts, status. */
final class KeepingTest {
    private KeepingTest() {
    }

    static void run() {
        weeks();
        weeksNearTheLastDay();
        drawn();
        image();
        imagesKeepLaws();
        back();
        count();
        status();
    }

    private static void weeks() {
        Check.about("promise 36");
        CounterDesk x = new CounterDesk();
        Check.due("weeks without NOTES", x.weeks(0, 1), -3);
        Check.due("weeks that can't be, without NOTES", x.weeks(-1, 1), -1);
        x = Check.desk(0, 7, 2, 5, 4, 11);
        int[][] cannot = {{-1, 1}, {1_000_001, 1}, {0, 0}, {0, 61}, {Integer.MAX_VALUE, 1}, {0, Integer.MIN_VALUE}};
        for (int[] c : cannot) {
            Check.due("weeks(" + c[0] + ", " + c[1] + ")", x.weeks(c[0], c[1]), -1);
        }
        Check.due("drawn behind none", x.drawn(0, 0), -1);
        Check.due("weeks(0, 1)", x.weeks(0, 1), 0);
        Check.due("drawn(0, 1)", x.drawn(0, 1), 16);
        Check.due("weeks(1000000, 60)", x.weeks(1_000_000, 60), 0);
        Check.inForce(x, "bars if day>1");
        Check.due("weeks(7, 5): each DAY is told", x.weeks(7, 5), 9);
        Check.due("count(12): on paper", x.count(12), 0);
        Check.due("of(0, 1): on paper", x.of(0, 1), 7);
        Check.due("count(4)", x.count(4), 0);
        Check.inForce(x, "bars");
        Check.due("weeks(7, 60)", x.weeks(7, 60), 180);
    }

    private static void weeksNearTheLastDay() {
        Check.about("promise 36, near the last DAY");
        CounterDesk x = Check.desk(0, 7, 2, 5, 4, 11);
        Check.inForce(x, "bars");
        x.terms(0, 997);
        Check.due("weeks(0, 60)", x.weeks(0, 60), 6);
        x.terms(0, 999);
        Check.due("weeks(0, 60) at 999", x.weeks(0, 60), 0);
        Check.due("drawn(0, 1): as it is", x.drawn(0, 1), 7);
        Check.due("drawn(2, 0)", x.drawn(2, 0), 4);
    }

    private static void drawn() {
        Check.about("promise 37");
        CounterDesk x = Check.desk(0, 7, 2, 5, 4, 11);
        int[] under = {0, 2, 4};
        int[] here = {7, 5, 11};
        long s = 4321;
        for (int k = 0; k < 60; k++) {
            int[] draws = new int[3];
            int[] of = {3, 25, 4};
            for (int d = 0; d < 3; d++) {
                s = (s * 1103 + 12345) % 1_000_003;
                draws[d] = (int) (s % of[d]);
            }
            if (draws[2] < 2) {
                here[draws[0]] = draws[1];
            } else if (draws[2] == 2) {
                under[draws[0]] = draws[1];
            } else {
                int[] was = under;
                under = here;
                here = was;
            }
            x.weeks(4321, k + 1);
            for (int i = 0; i < 3; i++) {
                Check.due("weeks(4321, " + (k + 1) + "), drawn(" + i + ", 0)", x.drawn(i, 0), under[i]);
                Check.due("weeks(4321, " + (k + 1) + "), drawn(" + i + ", 1)", x.drawn(i, 1), here[i]);
            }
        }
        Check.due("drawn(0, 2)", x.drawn(0, 2), -1);
        Check.due("drawn(0, -1)", x.drawn(0, -1), -1);
        Check.due("drawn(3, 0)", x.drawn(3, 0), -1);
        Check.due("drawn(-1, 0)", x.drawn(-1, 0), -1);
        x.note(1, 1);
        Check.due("drawn(3, 0): it was not in these WEEKS", x.drawn(3, 0), -1);
        x.weeks(-1, 5);
        x.set(0, 24);
        Check.due("drawn(0, 1): the latest that was not REFUSED", x.drawn(0, 1), here[0]);
    }

    private static void image() {
        Check.about("promise 38");
        CounterDesk x = Check.desk(1, 2);
        Check.due("image(-1)", x.image(-1), -1);
        Check.due("image(2)", x.image(2), -1);
        Check.due("status()", x.status(), -1);
        Check.due("image(0)", x.image(0), 0);
        Check.due("image(1)", x.image(1), 0);
        Check.due("status()", x.status(), 0);
        x.set(0, 9);
        x.image(1);
        Check.due("count(4): an image leaves it", x.count(4), 1);
        x.back(0);
        Check.due("of(0, 1)", x.of(0, 1), 2);
        x.back(1);
        Check.due("of(0, 1): IMAGES stay", x.of(0, 1), 9);
        x.set(0, 3);
        x.back(0);
        Check.due("of(0, 1)", x.of(0, 1), 2);
    }

    private static void imagesKeepLaws() {
        Check.about("promises 38, 39, LAWS");
        CounterDesk x = Check.desk(1, 2);
        x.image(1);
        Check.law(x, "costs 5");
        Check.law(x, "costs 6");
        x.force(1);
        x.image(0);
        x.back(1);
        Check.due("count(3)", x.count(3), 0);
        Check.due("count(11)", x.count(11), -1);
        Check.due("another LAW", Check.law(x, "costs 7"), 0);
        x.force(0);
        Check.due("of(0, 2)", x.of(0, 2), 7);
        x.back(0);
        Check.due("count(3)", x.count(3), 2);
        Check.due("of(0, 2)", x.of(0, 2), 6);
        x.force(0);
        Check.due("of(0, 2)", x.of(0, 2), 5);
        Check.due("best(-1)", x.best(-1), 5);
    }

    private static void back() {
        Check.about("promise 39");
        CounterDesk x = Check.desk(1, 2);
        Check.due("back(-1)", x.back(-1), -1);
        Check.due("back(2)", x.back(2), -1);
        Check.due("back(0)", x.back(0), -2);
        Check.due("status()", x.status(), -2);
        x.heard(0, 1);
        x.terms(0, 5);
        x.image(0);
        x.note(3, 4);
        x.set(0, 7);
        x.shift(0, 8);
        x.heard(0, 2);
        for (int t = 0; t < 5; t++) {
            x.terms(t, 7);
        }
        x.weeks(0, 3);
        int drawn = x.drawn(1, 1);
        x.set(0, 8);
        Check.tape(x, Check.bytes(50, 50));
        x.row();
        Check.orders(x, "pass;swap;set 0 to 25");
        Check.law(x, "bars 1");
        x.feed(0, 0, 0, 0, 0);
        int refused = x.count(6);
        Check.due("back(0)", x.back(0), 0);
        int[] want = {1, 0, 1, 0, 0, 20, refused, 1, 1, 0, 1, -1, 5, 1, 0, 0, 24};
        for (int i = 0; i < want.length; i++) {
            Check.due("count(" + i + ")", x.count(i), want[i]);
        }
        Check.due("of(0, 0)", x.of(0, 0), 1);
        Check.due("of(0, 1)", x.of(0, 1), 2);
        Check.due("canBe()", x.canBe(), 1);
        x.forget();
        x.heard(3, 50);
        Check.due("canBe() of something else", x.canBe(), 0);
        x.back(0);
        Check.due("canBe(): what was HEARD is back", x.canBe(), 1);
        x.set(0, 3);
        Check.due("canBe(): it was APART by 1", x.canBe(), 0);
        x.back(0);
        Check.due("fault() stays", x.fault(), 5);
        Check.due("blots() stay", x.blots(), 1);
        Check.due("stopped() stays", x.stopped(), 2);
        Check.due("drawn(1, 1): the latest WEEKS stay", x.drawn(1, 1), drawn);
        Check.due("undo()", x.undo(), -3);
        Check.due("back(1)", x.back(1), -2);
    }

    private static void count() {
        Check.about("promise 40");
        CounterDesk x = Check.desk(0, 0, 0, 1);
        Check.inForce(x, "bars if place=1");
        x.heard(0, 0);
        x.set(0, 5);
        x.feed(0, 0, 0, 0, 0);
        x.end(3);
        x.terms(9, 9);
        x.set(5, 5);
        x.set(5, 5);
        for (int i = 0; i < 3; i++) {
            x.set(0, 5);
        }
        for (int i = 0; i < 5; i++) {
            x.heard(0, 0);
        }
        for (int i = 0; i < 4; i++) {
            x.heard(0, 0);
        }
        x.end(0);
        for (int i = 0; i < 5; i++) {
            x.row();
        }
        x.feed(0, 0, 0, 0, 0);
        x.end(3);
        int[] want = {2, 1, 6, 1, 1, 3, 1, 2, 3, 4, 5, 0, 0, 1, 0, 0, 24};
        for (int i = 0; i < want.length; i++) {
            Check.due("count(" + i + ")", x.count(i), want[i]);
        }
        Check.due("count(17)", x.count(17), -1);
        Check.due("count(-1)", x.count(-1), -1);
        Check.due("count(max)", x.count(Integer.MAX_VALUE), -1);
        // NONE of a question is no refusal.
        x.of(9, 9);
        x.best(9);
        x.few(0, 0);
        x.end(-1);
        x.drawn(0, 0);
        x.compare(9);
        Check.due("count(6)", x.count(6), 1);
    }

    private static void status() {
        Check.about("promise 41");
        CounterDesk x = new CounterDesk();
        Check.due("status() ahead of any", x.status(), 0);
        x.note(25, 0);
        Check.due("note", x.status(), -1);
        x.note(1, 1);
        Check.due("note", x.status(), 0);
        x.terms(7, 0);
        Check.due("terms", x.status(), -1);
        x.row();
        Check.due("row", x.status(), -6);
        x.pass();
        Check.due("pass", x.status(), 0);
        x.law();
        Check.due("law", x.status(), -6);
        x.swap();
        Check.due("swap", x.status(), 0);
        x.orders();
        Check.due("orders", x.status(), -6);
        x.force(-1);
        Check.due("force", x.status(), 0);
        x.force(0);
        Check.due("force", x.status(), -2);
        x.undo();
        Check.due("undo", x.status(), 0);
        x.set(0, 1);
        Check.due("set", x.status(), -3);
        x.weeks(1, 1);
        Check.due("weeks", x.status(), 0);
        x.shift(3, 3);
        Check.due("shift", x.status(), -2);
        x.heard(0, 0);
        Check.due("heard", x.status(), 0);
        x.back(1);
        Check.due("back", x.status(), -2);
        x.image(1);
        Check.due("image", x.status(), 0);
        x.image(9);
        Check.due("image", x.status(), -1);
        x.forget();
        x.feed(0, 0, 0, 0, 0);
        x.end(99);
        x.best(-1);
        x.parallels(99);
        x.fault();
        Check.due("other calls leave it", x.status(), -1);
        x.back(1);
        Check.due("back", x.status(), 0);
    }
}
