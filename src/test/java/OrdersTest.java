/** Promises 12 to 14 and the language of ORDERS. */
final class OrdersTest {
    private OrdersTest() {
    }

    static void run() {
        orders();
        wholeOrNotAtAll();
        stopped();
        times();
        words();
        grammar();
        limits();
    }

    private static void orders() {
        Check.about("promise 12");
        CounterDesk x = Check.desk(1, 2, 3, 4);
        Check.due("orders() of an empty TAPE", x.orders(), -6);
        Check.due("fault()", x.fault(), 0);
        Check.due("orders of blanks", Check.orders(x, "    "), -6);
        Check.due("fault()", x.fault(), 4);
        Check.due("orders", Check.orders(x, "set 0 to 9; shift 1 to 8; swap; pass; set 0 to 9 if 1=2"), 4);
        Check.due("status()", x.status(), 0);
        Check.due("count(5)", x.count(5), 0);
        Check.due("of(0, 0)", x.of(0, 0), 9);
        Check.due("of(0, 1)", x.of(0, 1), 1);
        Check.due("of(1, 0)", x.of(1, 0), 4);
        Check.due("of(1, 1)", x.of(1, 1), 8);
        Check.due("count(12)", x.count(12), 1);
        Check.due("count(4)", x.count(4), 4);
        Check.due("undo()", x.undo(), 3);
        Check.due("undo()", x.undo(), 2);
        Check.due("undo()", x.undo(), 1);
        Check.due("undo()", x.undo(), 0);
        Check.due("of(0, 1)", x.of(0, 1), 2);
        Check.due("none run", Check.orders(x, "swap if 1=2"), 0);
        Check.due("an if that is BROKEN", Check.orders(x, "swap if 1/0=1; pass if not 1/0=1"), 0);
        Check.due("status()", x.status(), 0);
    }

    private static void wholeOrNotAtAll() {
        Check.about("promise 12, one can't be");
        CounterDesk x = Check.desk(1, 2, 3, 4);
        for (int i = 0; i < 16; i++) {
            x.set(1, i == 0 ? 24 : i);
        }
        String[] cannot = {"set 0 to 2", "shift 0 to 1", "set 2 to 0", "shift 2 to 0", "set 0 to 25", "set 0-1 to 0",
            "shift 0 to 0-1", "set 1/0 to 0", "set 0 to 1000*1000*1000+1", "set 1000 to 5"};
        for (String c : cannot) {
            int before = x.count(8);
            Check.due(c, Check.orders(x, "pass times 20; swap times 2; " + c), -3);
            Check.due("status()", x.status(), -3);
            Check.due("stopped()", x.stopped(), 2);
            Check.due("fault()", x.fault(), -1);
            Check.due("count(8): one call more", x.count(8), before + 1);
            Check.due("count(5)", x.count(5), 0);
            Check.due("count(12)", x.count(12), 0);
            Check.due("count(4)", x.count(4), 16);
        }
        Check.due("undo(): what could be undone is as it was", x.undo(), 0);
        Check.due("of(1, 1)", x.of(1, 1), 14);
        CounterDesk few = Check.desk(1, 2);
        few.set(0, 3);
        Check.due("one that can't be", Check.orders(few, "pass;swap;set 5 to 5"), -3);
        Check.due("count(4) is as it was", few.count(4), 1);
        CounterDesk none = new CounterDesk();
        Check.due("swap without NOTES", Check.orders(none, "swap"), -3);
        none.terms(0, 997);
        Check.due("pass beyond 999", Check.orders(none, "pass times 3"), -3);
        Check.due("count(12)", none.count(12), 997);
        Check.due("pass to 999", Check.orders(none, "pass times 3 if day < 999"), 2);
    }

    private static void stopped() {
        Check.about("promise 14");
        CounterDesk x = Check.desk(1, 2);
        Check.due("stopped() ahead of any", x.stopped(), -1);
        Check.orders(x, "pass;pass;set 0 to 2");
        Check.due("stopped()", x.stopped(), 2);
        Check.law(x, "?");
        Check.due("stopped() is of orders()", x.stopped(), 2);
        Check.orders(x, "?");
        Check.due("stopped() of what can't be read", x.stopped(), -1);
        Check.orders(x, "set 0 to 2");
        Check.due("stopped() at the first", x.stopped(), 0);
        Check.orders(x, "pass");
        Check.due("stopped() of what was done", x.stopped(), -1);
    }

    private static void times() {
        Check.about("TIMES");
        CounterDesk x = Check.desk(0, 0);
        Check.due("set on and on", Check.orders(x, "set 0 to here 0+1 times 20"), 20);
        Check.due("of(0, 1)", x.of(0, 1), 20);
        Check.due("count(4)", x.count(4), 16);
        Check.due("an if that is asked each time", Check.orders(x, "set 0 to here 0-3 times 20 if here 0>10"), 4);
        Check.due("of(0, 1)", x.of(0, 1), 8);
        Check.due("an if that is not so at first", Check.orders(x, "pass times 9 if done=0;pass times 3 if done>1;pass"), 2);
        Check.due("it can't be the third time", Check.orders(x, "set 0 to here 0+8 times 3"), -3);
        Check.due("of(0, 1)", x.of(0, 1), 8);
    }

    /** A word's value, by the PITCH that NOTE 11 is set to. */
    private static void word(CounterDesk x, String ahead, String sum, int want) {
        x.image(1);
        Check.due("orders with " + sum, Check.orders(x, ahead + "set 11 to " + sum) >= 0 ? 1 : 0, 1);
        Check.due(ahead + sum, x.of(11, 1), want);
        x.back(1);
    }

    private static void words() {
        Check.about("words of ORDERS");
        CounterDesk x = Check.desk(5, 6, 9, 3, 2, 4);
        for (int i = 3; i < 12; i++) {
            x.note(i, 0);
        }
        x.terms(0, 7);
        Check.inForce(x, "bars if place < day-6;costs place if place < 4");
        word(x, "", "day", 7);
        word(x, "pass;", "day", 8);
        word(x, "", "done+1", 1);
        word(x, "pass times 5;pass if 1=2;swap;", "done", 6);
        word(x, "", "latest+2", 1);
        word(x, "pass;", "latest+1", 2);
        word(x, "pass;pass;swap;", "latest+1", 3);
        word(x, "", "barred", 1);
        word(x, "pass;", "barred", 2);
        word(x, "", "all", 6);
        word(x, "", "here 0", 6);
        word(x, "", "here 2", 4);
        word(x, "set 1 to 23;", "here 01", 23);
        word(x, "", "under 1", 9);
        word(x, "", "under 11", 11);
        CounterDesk y = Check.desk(3, 4);
        Check.due("without such a NOTE", Check.orders(y, "set 0 to here 1+9; shift 0 to under 11 + 9"), 2);
        Check.due("of(0, 1)", y.of(0, 1), 8);
        Check.due("of(0, 0)", y.of(0, 0), 8);
        Check.due("SUMS see what stands, not what comes", Check.orders(y, "set here 0-8 to here 0+1"), 1);
        Check.due("of(0, 1)", y.of(0, 1), 9);
    }

    private static void grammar() {
        Check.about("FAULT of ORDERS");
        CounterDesk x = Check.desk(1, 2, 3, 4);
        String[] good = {"pass", "pass times 20", "pass times 01 if 1=1", "set 0 to 1 times 2", "shift 0+0 to [1]",
            "swap;swap", "pass if here 11=0-1", "pass if all>0 and barred<1 or done=latest", "set 0to 5 times1if 1=1"};
        for (String g : good) {
            Check.faultOfOrders(x, g, CounterDesk.NONE);
        }
        Object[][] bad = {{"", 0}, {"pass times", 10}, {"pass times 0", 11}, {"pass times 21", 11}, {"pass times 1+1", 12},
            {"pass times day", 11}, {"pass if 1=1 times 2", 12}, {"set 0", 5}, {"set 0 to", 8}, {"set 0 at 1", 6},
            {"set to 1", 4}, {"set here to 1", 9}, {"set here 12 to 1", 9}, {"set here [1] to 1", 9}, {"set under", 9},
            {"shift 0 to place", 11}, {"swap 1", 5}, {"pass;", 5}, {"bars", 0}, {"costs 1", 0}, {"set 0 to 1001", 9},
            {"pass if (day=1", 14}, {"pass if mood=1", 8}, {"here 1", 0}, {"set 0 to 1 to 2", 11}, {"swap times", 10},
            {"pass pass", 5}, {"set 0 to here 99999999999999999999", 14}};
        for (Object[] b : bad) {
            Check.faultOfOrders(x, (String) b[0], (int) b[1]);
        }
    }

    private static void limits() {
        Check.about("limits of ORDERS");
        CounterDesk x = Check.desk(1, 2);
        Check.faultOfOrders(x, Check.times("pass;", 11) + "pass", CounterDesk.NONE);
        Check.faultOfOrders(x, Check.times("pass;", 12) + "pass", 60);
        // N and TIMES aside: 50 words with 50 N are 50 PARTS.
        Check.faultOfOrders(x, "pass times 2 if 0<" + Check.times("here 0+", 48) + "1", CounterDesk.NONE);
        Check.faultOfOrders(x, "pass times 2 if 0<" + Check.times("here 0+", 49) + "1", 18 + 49 * 7);
        Check.faultOfOrders(x, "pass times 2 if 0<" + Check.times("here 0+", 49) + "here 0", 18 + 49 * 7);
        Check.faultOfOrders(x, "set " + Check.times("[", 9), 12);
    }
}
