/** Promises 30 to 34: HEARD, IT CAN BE, LISTEN, FEW. */
final class HeardTest {
    private HeardTest() {
    }

    static void run() {
        heard();
        forget();
        canBe();
        listen();
        few();
    }

    private static void heard() {
        Check.about("promise 30");
        CounterDesk x = new CounterDesk();
        int[][] cannot = {{-1, 0}, {4, 0}, {0, -25}, {3, 1000}, {Integer.MAX_VALUE, 0}, {0, Integer.MIN_VALUE}};
        for (int[] c : cannot) {
            Check.due("heard(" + c[0] + ", " + c[1] + ")", x.heard(c[0], c[1]), -1);
        }
        int[][] can = {{0, -24}, {0, 999}, {1, -24}, {2, 999}, {3, -24}, {3, 999}};
        for (int i = 0; i < can.length; i++) {
            Check.due("heard(" + can[i][0] + ", " + can[i][1] + ")", x.heard(can[i][0], can[i][1]), i + 1);
            Check.due("status()", x.status(), 0);
        }
        Check.due("a seventh", x.heard(0, 0), -5);
        Check.due("a seventh that can't be", x.heard(0, -25), -1);
        Check.due("count(2)", x.count(2), 6);
    }

    private static void forget() {
        Check.about("promise 31");
        CounterDesk x = Check.desk(0, 0);
        Check.due("forget() of nothing", x.forget(), 0);
        x.heard(0, 5);
        x.heard(0, 5);
        Check.due("canBe()", x.canBe(), 0);
        x.set(0, 0);
        Check.due("forget()", x.forget(), 2);
        Check.due("status() is of other calls", x.status(), -3);
        Check.due("canBe()", x.canBe(), 1);
        Check.due("count(2)", x.count(2), 0);
        Check.due("heard(0, 0)", x.heard(0, 0), 1);
    }

    private static void canBe() {
        Check.about("promise 32");
        // APART 7, 3, 7, -2; LEAP 0, -2, 6, -2.
        CounterDesk x = Check.desk(0, 7, 2, 5, 4, 11, 11, 9);
        Check.due("canBe() of nothing HEARD", x.canBe(), 15);
        x.heard(0, 7);
        Check.due("canBe() by APART", x.canBe(), 5);
        x.heard(1, 0);
        Check.due("canBe(): LEAP is 0 of the first", x.canBe(), 1);
        x.forget();
        x.heard(2, 2);
        Check.due("canBe() by COSTS", x.canBe(), 10);
        x.heard(3, 1);
        Check.due("canBe() by EARNS", x.canBe(), 10);
        x.heard(0, -2);
        Check.due("canBe() by APART below 0", x.canBe(), 8);
        x.set(3, 12);
        Check.due("canBe() as they are HERE now", x.canBe(), 0);
        x.forget();
        Check.inForce(x, "costs place;earns 9 if place>1");
        x.heard(3, 9);
        Check.due("canBe() by law", x.canBe(), 12);
        x.heard(2, 3);
        Check.due("canBe() by law", x.canBe(), 8);
        Check.due("canBe() without NOTES", new CounterDesk().canBe(), 0);
    }

    private static void listen() {
        Check.about("promise 33");
        CounterDesk x = Check.desk(0, 7, 2, 5, 4, 11);
        // APART 7, 3, 7: two alike; LEAP 0, -2, 6: none.
        Check.due("listen(0)", x.listen(0), 1);
        Check.due("listen(1)", x.listen(1), 1);
        Check.due("listen(2)", x.listen(2), -1);
        Check.due("listen(-1)", x.listen(-1), -1);
        x.heard(0, 99);
        Check.due("listen(0) if it can be none", x.listen(0), -1);
        Check.due("listen(1) if it can be none", x.listen(1), -1);
        CounterDesk same = Check.desk(3, 3, 3, 3, 3, 3);
        Check.due("listen(0): the lowest", same.listen(0), 0);
        Check.due("listen(1)", same.listen(1), 3);
        Check.inForce(same, "costs 1 if place>0;earns place");
        Check.due("listen(0) by EARNS", same.listen(0), 3);
        Check.due("listen(1) by EARNS", same.listen(1), 1);
        Check.inForce(same, "costs 1 if place>0");
        Check.due("listen(0) by COSTS", same.listen(0), 2);
        Check.due("listen(1) by COSTS", same.listen(1), 2);
        same.heard(2, 1);
        Check.due("listen(0): of those left", same.listen(0), 0);
        Check.due("listen(1): of those left", same.listen(1), 2);
        Check.due("listen(0) without NOTES", new CounterDesk().listen(0), -1);
    }

    private static void few() {
        Check.about("promise 34");
        CounterDesk x = new CounterDesk();
        long all = 1_000_000_000_000L;
        Check.due("few(1, 0)", x.few(1, 0), all);
        Check.due("few(1, 1)", x.few(1, 1), 900_000_000_000L);
        Check.due("few(2, 1)", x.few(2, 1), all);
        Check.due("few(1, 2)", x.few(1, 2), 810_000_000_000L);
        Check.due("few(2, 2)", x.few(2, 2), 990_000_000_000L);
        Check.due("few(20, 19)", x.few(20, 19) > all - 100 && x.few(20, 19) <= all ? 1 : 0, 1);
        int[][] others = {{0, 1}, {21, 1}, {1, -1}, {1, 100}, {-5, 5}};
        for (int[] o : others) {
            Check.due("few(" + o[0] + ", " + o[1] + ")", x.few(o[0], o[1]), -1);
        }
        long none = all;
        for (int i = 0; i < 99; i++) {
            none = none * 9 / 10;
        }
        Check.due("few(1, 99)", x.few(1, 99), none);
        x.terms(1, 3);
        Check.due("few(2, 2) of SLIPS 3", x.few(2, 2), 910_000_000_000L);
        // 13 NOTES leave parts that ten does not divide: 7 to the 13th, and what is cut.
        long[] parts = {all, 0};
        for (int i = 0; i < 30; i++) {
            parts = new long[] {parts[0] * 7 / 10, parts[1] * 7 / 10 + parts[0] * 3 / 10};
        }
        Check.due("few(2, 30): both cut", x.few(2, 30), parts[0] + parts[1]);
        x.terms(1, 0);
        Check.due("few(1, 99) without SLIPS", x.few(1, 99), all);
        x.terms(1, 10);
        Check.due("few(1, 1) of SLIPS alone", x.few(1, 1), 0);
        Check.due("few(20, 19) of SLIPS alone", x.few(20, 19), all);
        Check.due("few(20, 20) of SLIPS alone", x.few(20, 20), 0);
    }
}
