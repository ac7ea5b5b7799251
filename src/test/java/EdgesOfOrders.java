/** The bounds that ORDERS have: part II from "ORDERS: CLAUSE" on, promises 12 and 14. */
final class EdgesOfOrders {
    private EdgesOfOrders() {
    }

    static void run() {
        times();
        whichNote();
        withoutSuchANote();
        doneAndLatest();
        barredAndAll();
        setToTheEdges();
        passToTheLastDay();
        swapOfNone();
        brokenSums();
        ifIsAsked();
        oneThatCannotBe();
        nothingOfWhatCannotBeRead();
        whatIsRefused();
        stopped();
        twelveTimesTwenty();
        noneRun();
    }

    private static CounterDesk desk() {
        return Check.desk(1, 2, 3, 4);
    }

    private static void times() {
        Check.about("TIMES: a NUMBER 1 .. 20");
        int[] can = {1, 2, 19, 20};
        for (int n : can) {
            CounterDesk x = desk();
            Check.due("pass times " + n, Check.orders(x, "pass times " + n), n);
            Check.due("count(12)", x.count(12), n);
            Check.due("pass times 000" + n, Check.orders(x, "pass times 000" + n), n);
            Check.due("count(12)", x.count(12), 2 * n);
            Check.due("swap times " + n, Check.orders(x, "swap times " + n), n);
            Check.due("of(0, 0)", x.of(0, 0), n % 2 == 0 ? 1 : 2);
        }
        CounterDesk once = desk();
        Check.due("once without", Check.orders(once, "pass"), 1);
        Check.due("count(12)", once.count(12), 1);
        String[] cannot = {"0", "00", "21", "22", "99", "1000", "1001", "4294967297", "18446744073709551617", "day", "[1]", "-1", "x", ""};
        for (String n : cannot) {
            for (String head : new String[] {"pass", "swap", "set 0 to 9", "shift 0 to 9"}) {
                Check.faultOfOrders(desk(), head + " times " + n, head.length() + 7);
            }
        }
        Check.faultOfOrders(desk(), "pass times 1 times 1", 13);
        Check.faultOfOrders(desk(), "pass if 1=1 times 1", 12);
        Check.faultOfLaw("bars times 1", 5);
    }

    private static void whichNote() {
        Check.about("N: a NUMBER 0 .. 11");
        CounterDesk x = new CounterDesk();
        for (int i = 0; i < 12; i++) {
            x.note(i, 23 - i);
        }
        for (int n = 0; n < 12; n++) {
            for (String zero : new String[] {"", "00"}) {
                Check.due("here " + zero + n, Check.orders(x, "pass if here " + zero + n + "=" + (23 - n)), 1);
                Check.due("under " + zero + n, Check.orders(x, "pass if under " + zero + n + "=" + n), 1);
            }
        }
        String[] cannot = {"12", "13", "100", "1001", "4294967296", "18446744073709551616", "[0]", "day", "+1", "-1", "here 0", ""};
        for (String n : cannot) {
            Check.faultOfOrders(desk(), "pass if here " + n, 13);
            Check.faultOfOrders(desk(), "set 0 to under " + n, 15);
        }
        Check.faultOfLaw("costs here 0", 11);
        Check.faultOfLaw("costs under 0", 12);
    }

    private static void withoutSuchANote() {
        Check.about("here, under: of a NOTE (-1 without such a one)");
        for (int had = 0; had <= 12; had++) {
            CounterDesk x = new CounterDesk();
            for (int i = 0; i < had; i++) {
                x.note(i, 12 + i);
            }
            for (int n = 0; n < 12; n++) {
                boolean is = n < had;
                Check.due("here " + n + " of " + had, Check.orders(x, "pass if here " + n + "=" + (is ? 12 + n : "0-1")), 1);
                Check.due("under " + n + " of " + had, Check.orders(x, "pass if under " + n + "=" + (is ? "" + n : "0-1")), 1);
            }
        }
    }

    private static void doneAndLatest() {
        Check.about("done: how many were run in this TEXT, latest: what the latest pass in it told (-1: none)");
        CounterDesk x = desk();
        Check.due("done at first", Check.orders(x, "pass if done=0"), 1);
        Check.due("done is of this TEXT", Check.orders(x, "pass if done=0"), 1);
        Check.due("latest at first", Check.orders(x, "pass if latest=0-1"), 1);
        Check.due("latest is of this TEXT", Check.orders(x, "pass if latest=0-1"), 1);
        Check.due("done counts each time", Check.orders(x, "swap times 3;pass if done=3;pass if done=4;pass if done=4"), 5);
        Check.due("done counts what was run alone", Check.orders(x, "pass times 20 if done<2;swap if done=2"), 3);
        Check.due("latest of no pass", Check.orders(x, "swap;set 0 to 9;pass if latest=0-1;pass if latest=0"), 4);
        Check.inForce(x, "bars if day>20");
        x.terms(0, 19);
        Check.due("latest of each", Check.orders(x, "pass;pass if latest=0;pass if latest=0;pass if latest=2"), 4);
        Check.due("latest of a pass that was not run", Check.orders(x, "pass if 1=2;swap if latest=0-1"), 1);
    }

    private static void barredAndAll() {
        Check.about("barred: how many NOTES are BARRED, all: what all NOTES COST together");
        CounterDesk x = new CounterDesk();
        Check.due("without NOTES", Check.orders(x, "pass if barred=0 and all=0"), 1);
        for (int i = 0; i < 12; i++) {
            x.note(0, i % 2 * 24);
        }
        Check.due("without a LAW", Check.orders(x, "pass if barred=0 and all=11*24"), 1);
        Check.inForce(x, "bars;costs 999");
        Check.due("the most", Check.orders(x, "pass if barred=12 and all=12*999"), 1);
        Check.inForce(x, "bars if here=24;costs here");
        Check.due("as it is then", Check.orders(x, "pass if barred=6 and all=6*24;set 1 to 0;pass if barred=5 and all=5*24"), 3);
        Check.due("each time", Check.orders(x, "set 12-barred-barred+1 to 0 times 20 if barred>0"), 5);
        Check.due("all(2)", x.all(2), 0);
    }

    private static void cannot(String text, int stopped) {
        Twins.refusedText(text, false, EdgesOfOrders::desk, -3);
        CounterDesk x = desk();
        Check.due(text, Check.orders(x, text), -3);
        Check.due(text + ", stopped()", x.stopped(), stopped);
        Check.due(text + ", fault()", x.fault(), -1);
        Check.due(text + ", count(5)", x.count(5), 0);
    }

    private static void setToTheEdges() {
        Check.about("One that can't be: as set(), shift() are REFUSED");
        for (String verb : new String[] {"set", "shift"}) {
            int what = verb.equals("set") ? 1 : 0;
            for (int p : new int[] {0, 8, 23, 24}) {
                CounterDesk x = desk();
                Check.due(verb + " 1 to " + p, Check.orders(x, verb + " 1 to " + p), 1);
                Check.due("of(1, " + what + ")", x.of(1, what), p);
            }
            String[] noPitch = {"25", "0-1", "26", "1000", "0-1000", "256", "1000*1000*1000", "256*256*256"};
            for (String p : noPitch) {
                cannot(verb + " 1 to " + p, 0);
            }
            String[] noNote = {"2", "0-1", "3", "11", "12", "1000", "256*256*256", "1000*1000*1000"};
            for (String n : noNote) {
                cannot(verb + " " + n + " to 9", 0);
            }
            cannot(verb + " 0 to " + (1 + what), 0);
            cannot(verb + " 1 to " + (3 + what), 0);
            cannot(verb + " 1 to 9 times 2", 0);
            CounterDesk none = new CounterDesk();
            Check.due(verb + " 0 to 0 without NOTES", Check.orders(none, verb + " 0 to 0"), -3);
        }
    }

    private static void passToTheLastDay() {
        Check.about("One that can't be: as pass() is REFUSED");
        for (int day : new int[] {0, 979, 980, 997, 998, 999}) {
            CounterDesk x = desk();
            x.terms(0, day);
            x.swap();
            int left = 999 - day;
            Check.due("pass times 20 on " + day, Check.orders(x, "swap;pass times 20"), left >= 20 ? 21 : -3);
            Check.due("count(12)", x.count(12), left >= 20 ? day + 20 : day);
            Check.due("stopped()", x.stopped(), left >= 20 ? -1 : 1);
            Check.due("of(0, 0)", x.of(0, 0), left >= 20 ? 1 : 2);
            Check.due("count(4)", x.count(4), left >= 20 ? 16 : 1);
            int then = x.count(12);
            Check.due("pass on " + then, Check.orders(x, "pass"), then < 999 ? 1 : -3);
        }
        CounterDesk x = desk();
        x.terms(0, 998);
        Check.due("to 999 and no farther", Check.orders(x, "pass times 20 if day<999"), 1);
        Check.due("count(12)", x.count(12), 999);
        Check.due("pass at 999", Check.orders(x, "pass"), -3);
        Check.due("no pass at 999", Check.orders(x, "pass if day<999;swap"), 1);
    }

    private static void swapOfNone() {
        Check.about("One that can't be: as swap() is REFUSED");
        Twins.refusedText("swap", false, CounterDesk::new, -3);
        Twins.refusedText("pass;pass times 20;swap", false, CounterDesk::new, -3);
        CounterDesk x = new CounterDesk();
        Check.due("pass;swap", Check.orders(x, "pass;swap"), -3);
        Check.due("stopped()", x.stopped(), 1);
        Check.due("count(12)", x.count(12), 0);
        Check.due("no swap", Check.orders(x, "pass;swap if here 0>0-1"), 1);
        x.note(3, 4);
        Check.due("swap of one", Check.orders(x, "pass;swap"), 2);
        Check.due("of(0, 0)", x.of(0, 0), 4);
    }

    private static void brokenSums() {
        Check.about("One that can't be (a BROKEN SUM)");
        String[] sums = {"1/0", "0%0", "1000*1000*1000+1", "0-1000*1000*1000-1", "1/[here 0-2]", "0*[1/0]", "1000*1000*1000+1-1000*1000*1000"};
        for (String s : sums) {
            cannot("set " + s + " to 9", 0);
            cannot("set 0 to " + s, 0);
            cannot("shift " + s + " to 9", 0);
            cannot("pass;shift 0 to " + s, 1);
            cannot("pass;swap;pass if " + s + "=0;set 0 to 9 if not " + s + "=0;shift 1 to " + s + " times 20", 4);
        }
        CounterDesk x = desk();
        Check.due("a SUM that is not BROKEN", Check.orders(x, "set 1000*1000*1000%2 to 1000*1000*1000/1000/1000/100"), 1);
        Check.due("of(0, 1)", x.of(0, 1), 10);
    }

    private static void ifIsAsked() {
        Check.about("each time its \"if\" is asked (not run, if it is not so or BROKEN), then its SUMS");
        CounterDesk x = desk();
        Check.due("a BROKEN if", Check.orders(x, "pass times 20 if 1/0=1;pass times 20 if not 1/0=1;swap"), 1);
        Check.due("SUMS that are not asked", Check.orders(x, "set 1/0 to 1/0 if 1=2;set 99 to 99 if 1/0=0;pass"), 1);
        Check.due("asked each time", Check.orders(x, "set 0 to here 0-1 times 20 if here 0>0"), 1);
        Check.due("of(0, 1)", x.of(0, 1), 0);
        Check.due("asked again behind one that was not so", Check.orders(x, "pass times 4 if day%2=0;pass;pass times 4 if day%2=0"), 2);
        CounterDesk y = desk();
        Check.due("a SUM is asked each time", Check.orders(y, "set 0 to here 0+done+1 times 3"), 3);
        Check.due("of(0, 1)", y.of(0, 1), 8);
        Check.due("it ends where it can't be", Check.orders(desk(), "set 0 to here 0+1 times 20 if here 0<24"), 20);
        Check.due("it ends where it can't be", Check.orders(desk(), "set 0 to here 0+2 times 11"), 11);
        cannot("set 0 to here 0+2 times 12", 0);
    }

    private static void oneThatCannotBe() {
        Check.about("One that can't be ends it: all is as it was ahead of it");
        String ahead = "set 0 to 9;shift 1 to 8;swap;pass times 20;swap times 3;";
        for (String text : new String[] {"set 0 to 25", "set 2 to 0", "shift 0 to here 0 times 2;pass", "pass times 20;set 0 to 1/0"}) {
            Twins.refusedText(ahead + text, false, EdgesOfOrders::desk, -3);
            Twins.refusedText("pass;" + text.replace("set 2 ", "set 12 "), false, Twins::busy, -3);
        }
        Twins.refusedText("set 11 to 14;swap;shift 3 to 24;pass times 20;set 0 to 25", false, Twins::full, -3);
        CounterDesk x = desk();
        Check.orders(x, "pass;pass;pass");
        Check.due("it can be", Check.orders(x, ahead + "pass"), 27);
        Check.due("count(4)", x.count(4), 16);
        CounterDesk y = desk();
        Check.orders(y, "pass;pass;pass");
        Check.due("it can't be", Check.orders(y, ahead + "set 0 to 25"), -3);
        Check.due("count(4)", y.count(4), 3);
        for (int i = 0; i < 3; i++) {
            Check.due("undo() " + i, y.undo(), 3);
        }
        Check.due("undo()", y.undo(), -3);
    }

    private static void nothingOfWhatCannotBeRead() {
        Check.about("ORDERS that can't be read are not run at all");
        String[] texts = {"", "  ", "pass;pass;", "pass;swap;set 0 to 1001", "pass times 20;?", Check.times("pass;", 12) + "pass", "bars"};
        for (String text : texts) {
            Twins.refusedText(text, false, EdgesOfOrders::desk, -6);
            Twins.refusedText(text, false, Twins::busy, -6);
            Twins.refusedText(text, false, Twins::full, -6);
        }
    }

    private static void whatIsRefused() {
        Check.about("promise 12: -3 one can't be, whatever it is REFUSED by; one call");
        CounterDesk x = desk();
        Check.orders(x, "set 0 to 25");
        Check.orders(x, "set 5 to 5");
        Check.orders(x, "set 0 to 2");
        Check.orders(x, "set 0 to 1/0");
        Check.due("count(6)", x.count(6), 0);
        Check.due("count(7)", x.count(7), 0);
        Check.due("count(8)", x.count(8), 4);
        Check.due("status()", x.status(), -3);
        Check.orders(x, "?");
        Check.due("count(10)", x.count(10), 1);
        Check.due("count(8)", x.count(8), 4);
        Check.orders(x, "pass");
        Check.due("status()", x.status(), 0);
    }

    private static void stopped() {
        Check.about("promise 14: which CLAUSE (0 on); NONE (that was done, or REFUSED by -6; ahead of any)");
        CounterDesk x = desk();
        Check.due("stopped() ahead of any", x.stopped(), -1);
        for (int c = 0; c < 12; c++) {
            String text = Check.times("pass;", c) + "set 0 to 25" + Check.times(";pass", 11 - c);
            Check.due("orders", Check.orders(x, text), -3);
            Check.due("stopped() at " + c, x.stopped(), c);
        }
        x.set(0, 25);
        x.pass();
        Check.law(x, "?");
        x.row();
        Check.due("stopped() behind other calls", x.stopped(), 11);
        Check.orders(x, "pass;?");
        Check.due("stopped() of what can't be read", x.stopped(), -1);
        Check.orders(x, "set 0 to 25");
        Check.due("stopped()", x.stopped(), 0);
        Check.orders(x, "");
        Check.due("stopped() of an empty TAPE", x.stopped(), -1);
        Check.orders(x, "pass;set 0 to 25");
        Check.due("stopped()", x.stopped(), 1);
        Check.orders(x, "pass if 1=2");
        Check.due("stopped() of what was done", x.stopped(), -1);
        Check.due("stopped() at the 20th time", Check.orders(x, "pass;pass;set 0 to 20-done times 20"), -3);
        Check.due("stopped()", x.stopped(), 2);
    }

    private static void twelveTimesTwenty() {
        Check.about("12 CLAUSES, 20 times each");
        CounterDesk x = desk();
        Check.due("orders", Check.orders(x, Check.times("pass times 20;", 11) + "pass times 20"), 240);
        Check.due("count(12)", x.count(12), 240);
        Check.due("count(4)", x.count(4), 16);
        Check.due("undo()", x.undo(), 3);
        Check.due("count(12)", x.count(12), 239);
    }

    private static void noneRun() {
        Check.about("ORDERS of which none is run are no refusal");
        CounterDesk x = Twins.busy();
        Check.due("orders", Check.orders(x, "pass if 1=2;set 99 to 99 if 1/0=1"), 0);
        Check.due("status()", x.status(), 0);
        Check.due("stopped()", x.stopped(), -1);
        Check.due("fault()", x.fault(), -1);
        Check.due("count(4)", x.count(4), 4);
        Check.due("count(8)", x.count(8), 1);
    }
}
