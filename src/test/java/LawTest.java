/** Promises 11, 13, 15 and the language of LAWS. */
final class LawTest {
    private LawTest() {
    }

    static void run() {
        law();
        fault();
        force();
        words();
        sums();
        holds();
        broken();
        grammar();
        limits();
    }

    private static void law() {
        Check.about("promise 11");
        CounterDesk x = Check.desk(0, 0);
        x.set(0, 1);
        Check.due("law of an empty TAPE", x.law(), -6);
        Check.due("fault()", x.fault(), 0);
        Check.due("law of blanks", Check.law(x, "   "), -6);
        Check.due("fault()", x.fault(), 3);
        Check.due("count(5)", x.count(5), 0);
        Check.due("law that can't be read", Check.law(x, "costs"), -6);
        Check.due("count(5)", x.count(5), 0);
        for (int i = 0; i < 6; i++) {
            Check.due("law " + i, Check.law(x, "costs " + i), i);
            Check.due("count(5)", x.count(5), 0);
            Check.due("status()", x.status(), 0);
        }
        Check.law(x, "");
        Check.due("a seventh, empty", x.status(), -5);
        Check.due("a seventh", Check.law(x, "?"), -5);
        Check.due("fault(): that was not read", x.fault(), -1);
        Check.due("count(5)", x.count(5), 0);
        Check.due("count(3)", x.count(3), 6);
        Check.due("count(4)", x.count(4), 1);
        Check.due("count(11): none is in FORCE yet", x.count(11), -1);
        for (int i = 0; i < 6; i++) {
            x.force(i);
            Check.due("of(0, 2) by law " + i, x.of(0, 2), i);
        }
    }

    private static void fault() {
        Check.about("promise 13");
        CounterDesk x = new CounterDesk();
        Check.due("fault() ahead of any", x.fault(), -1);
        Check.law(x, "bars 1");
        Check.due("fault()", x.fault(), 5);
        Check.law(x, "bars");
        Check.due("fault() of a good law", x.fault(), -1);
        Check.orders(x, "pass pass");
        Check.due("fault() of orders", x.fault(), 5);
        Check.orders(x, "swap");
        Check.due("fault() of orders that can't be", x.fault(), -1);
    }

    private static void force() {
        Check.about("promise 15");
        CounterDesk x = Check.desk(0, 0);
        Check.due("force(0) without LAWS", x.force(0), -2);
        Check.due("status()", x.status(), -2);
        Check.due("force(NONE)", x.force(-1), -1);
        Check.due("status(): it is no refusal", x.status(), 0);
        Check.law(x, "costs 5");
        Check.law(x, "costs 6");
        Check.due("force(2)", x.force(2), -2);
        Check.due("force(-2)", x.force(-2), -2);
        Check.due("force(1)", x.force(1), -1);
        Check.due("status()", x.status(), 0);
        Check.due("of(0, 2)", x.of(0, 2), 6);
        Check.due("force(0)", x.force(0), 1);
        Check.due("of(0, 2)", x.of(0, 2), 5);
        Check.due("force(NONE)", x.force(-1), 0);
        Check.due("of(0, 2)", x.of(0, 2), 0);
        Check.due("count(6)", x.count(6), 0);
        Check.due("count(7)", x.count(7), 3);
    }

    private static void costs(CounterDesk x, int note, String sum, int want) {
        x.image(0);
        Check.inForce(x, "costs " + sum);
        Check.due("of(" + note + ", 2) by costs " + sum, x.of(note, 2), want);
        x.back(0);
    }

    private static void words() {
        Check.about("words of LAWS");
        // UNDER 5, 9, 2; HERE 8, 3, 20.
        CounterDesk x = Check.desk(5, 8, 9, 3, 2, 20);
        x.terms(0, 77);
        x.terms(2, 6);
        String[] words = {"place", "here", "under", "apart", "ahead", "leap", "moves", "last", "day", "mood"};
        int[][] want = {{0, 8, 5, 3, 0, 0, 0, 0, 77, 6}, {1, 3, 9, -6, 3, -5, 4, 0, 77, 6}, {2, 20, 2, 18, -6, 17, -7, 1, 77, 6}};
        for (int i = 0; i < 3; i++) {
            for (int w = 0; w < words.length; w++) {
                costs(x, i, "100+" + words[w], 100 + want[i][w]);
            }
        }
        CounterDesk y = Check.desk(5, 8);
        costs(y, 0, "last", 1);
        y.note(1, 1);
        costs(y, 0, "last", 0);
    }

    private static void sums() {
        Check.about("SUMS");
        CounterDesk x = Check.desk(7, 0);
        String[] sums = {"1+2*3", "[1+2]*3", "10-3-2", "100/5/2", "100%30*2", "17%5", "10+apart/2", "10+apart%4",
            "1000", "0007", "10-[2-[3-1]]", "2*[3]%4", "7/8", "0"};
        int[] want = {7, 9, 5, 10, 20, 2, 7, 7, 999, 7, 10, 2, 0, 0};
        for (int i = 0; i < sums.length; i++) {
            costs(x, 0, sums[i], want[i]);
        }
    }

    private static void holds() {
        Check.about("which CLAUSE HOLDS");
        CounterDesk x = Check.desk(0, 3, 0, 8);
        costs(x, 1, "5;costs 6;earns 7", 6);
        costs(x, 1, "5;costs 6 if place=0", 5);
        costs(x, 0, "5;costs 6 if place=0", 6);
        costs(x, 1, "5 if place=0", 5);
        costs(x, 1, "50 if place=0;costs 51 if here=0", 5);
        costs(x, 0, "0-1", 0);
        costs(x, 0, "1000*1000", 999);
        x.set(1, 0);
        costs(x, 1, "9 if 1=2", 3);
        Check.inForce(x, "earns 100;earns 0-4 if place=1");
        Check.due("of(0, 3)", x.of(0, 3), 99);
        Check.due("of(1, 3)", x.of(1, 3), 0);
        Check.inForce(x, "bars if place=1;bars if place=5");
        Check.due("of(0, 4)", x.of(0, 4), 0);
        Check.due("of(1, 4): any that HOLDS", x.of(1, 4), 1);
        Check.due("of(1, 3): 1 without", x.of(1, 3), 1);
        Check.inForce(x, "bars");
        Check.due("all(2)", x.all(2), 2);
    }

    private static void broken() {
        Check.about("BROKEN");
        CounterDesk x = Check.desk(0, 3);
        costs(x, 0, "5;costs 1/0", 5);
        costs(x, 0, "5;costs 1%0", 5);
        costs(x, 0, "5;costs 7 if 1/place=1", 5);
        costs(x, 0, "5;costs 1000*1000*1000", 999);
        costs(x, 0, "5;costs 1000*1000*1000+1", 5);
        costs(x, 0, "5;costs 1000*1000*1000+1-1", 5);
        costs(x, 0, "5;costs 1000*1000*1000*2/4", 5);
        costs(x, 0, "5;costs 0-1000*1000*1000", 0);
        costs(x, 0, "5;costs 0-1000*1000*1000-1", 5);
        costs(x, 0, "5;costs [1000*1000*1000]*[1000*1000*1000]", 5);
        costs(x, 0, "5;costs 8;costs 1/0", 8);
        String[] tests = {"1/0=1", "not 1/0=1", "1=1 or 1/0=1", "1/0=1 or 1=1", "1=2 or 1/0=1", "1=2 and 1/0=1 or 1=1",
            "1=1 and 1/0=1 or 1=1", "not (1=2 and 1/0=1)", "1=2 and (1/0=1 or 1=1) or 2=2", "1=2 or 2=3 or 3=3 or 1/0=0",
            "1=1 and 2=2 and 3=4 and 1/0=0", "0*[1/0]=0"};
        int[] barred = {0, 0, 1, 0, 0, 1, 0, 1, 1, 1, 0, 0};
        for (int i = 0; i < tests.length; i++) {
            x.image(0);
            Check.inForce(x, "bars if " + tests[i]);
            Check.due("of(0, 4) by " + tests[i], x.of(0, 4), barred[i]);
            x.back(0);
        }
    }

    private static void grammar() {
        Check.about("FAULT of LAWS");
        String[] good = {"bars", " bars ", "bars;bars", "costs 1", "costs[1]", "costs1if1=1", "earns leap*leap if not not 1<2",
            "bars if (1=1)", "bars if ((1=1)or(2=2))and 3=3", "bars if [1]+2>[3*[4]]", "bars if not (1=1) and not 2=2",
            "costs 00000000001000", "bars if last=1;costs 1;earns 1"};
        for (String g : good) {
            Check.faultOfLaw(g, CounterDesk.NONE);
        }
        Object[][] bad = {{"", 0}, {" ", 1}, {"cost 1", 0}, {"costs", 5}, {"costs  ", 7}, {"costs 1;", 8}, {"; bars", 0},
            {"bars bars", 5}, {"costs (1)", 6}, {"costs 1001", 6}, {"costs 99999999999999999999", 6}, {"costs 1 2", 8},
            {"costs 1+", 8}, {"costs -1", 6}, {"costs [1", 8}, {"costs [1)", 8}, {"costs 1]", 7}, {"bars if", 7},
            {"bars if 1", 9}, {"bars if 1<", 10}, {"bars if 1<2<3", 11}, {"bars if (1<2", 12}, {"bars if (1)", 10},
            {"bars if [1<2]", 10}, {"bars if 1<2 or", 14}, {"bars if 1<2 and", 15}, {"costs 1*", 8}, {"costs placez", 6}, {"costs dlace", 6}, {"kosts 1", 0}, {"bars if 1<2 or or", 15}, {"bars if not", 11},
            {"bars if 1<2 not 1<2", 12}, {"bars if 1<2)", 11}, {"costs if 1=1", 6}, {"bars if 1=1 if 1=1", 12},
            {"Bars", 0}, {"costs heres", 6}, {"costs latest", 6}, {"costs here 1", 11}, {"costs 1 times 2", 8},
            {"set 0 to 1", 0}, {"bars\tif 1=1", 4}, {"bars if 1==1", 10}, {"bars if 1<=1", 10}, {"bars;;bars", 5},
            {"costs 1,000", 7}, {"costs 1 ;earns", 14}};
        for (Object[] b : bad) {
            Check.faultOfLaw((String) b[0], (int) b[1]);
        }
    }

    private static void limits() {
        Check.about("limits of TEXTS");
        Check.faultOfLaw(Check.times("bars;", 11) + "bars", CounterDesk.NONE);
        Check.faultOfLaw(Check.times("bars;", 12) + "bars", 60);
        Check.faultOfLaw(Check.times("bars;", 12), 60);
        Check.faultOfLaw(Check.times("bars;", 12) + "  ?", 62);
        Check.faultOfLaw("costs " + Check.times("1+", 49) + "1", CounterDesk.NONE);
        Check.faultOfLaw("costs " + Check.times("1+", 50) + "1", 106);
        Check.faultOfLaw("costs " + Check.times("1+", 24) + "1;costs " + Check.times("1+", 24) + "1", CounterDesk.NONE);
        Check.faultOfLaw("costs " + Check.times("1+", 24) + "1;costs " + Check.times("1+", 25) + "1", 112);
        Check.faultOfLaw("costs " + Check.times("1+", 50) + "[1]", 107);
        Check.faultOfLaw("costs " + Check.times("[", 8) + "1" + Check.times("]", 8), CounterDesk.NONE);
        Check.faultOfLaw("costs " + Check.times("[", 9) + "1" + Check.times("]", 9), 14);
        Check.faultOfLaw("bars if ((((" + "[[[[1]]]]=1))))", CounterDesk.NONE);
        Check.faultOfLaw("bars if ((((" + "[[[[[1]]]]]=1))))", 16);
        Check.faultOfLaw("bars if " + Check.times("(", 9) + "1=1" + Check.times(")", 9), 16);
        Check.faultOfLaw("costs " + Check.times("[1]+", 20) + "[[1]]", CounterDesk.NONE);
        Check.faultOfLaw("bars if " + Check.times("(1=1) and ", 20) + "1=1", CounterDesk.NONE);
        CounterDesk x = Check.desk(0, 0);
        Check.inForce(x, "bars if " + Check.times("not ", 97) + "1=1");
        Check.due("not, 97 times", x.of(0, 4), 0);
        Check.inForce(x, "bars if " + Check.times("not ", 96) + "1=1");
        Check.due("not, 96 times", x.of(0, 4), 1);
        Check.inForce(x, "bars if " + Check.times("not(", 8) + "1=2" + Check.times(")", 8));
        Check.due("not within brackets", x.of(0, 4), 0);
    }
}
