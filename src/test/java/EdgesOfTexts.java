/** The bounds of both languages: part II from TOKENS to BROKEN, and promise 13. */
final class EdgesOfTexts {
    private EdgesOfTexts() {
    }

    static void run() {
        letters();
        digits();
        singleBytes();
        blanks();
        numbers();
        clauses();
        parts();
        partsOfOrders();
        brackets();
        bracketsOfOrders();
        faultAtTheEnd();
        longTexts();
        sumLimit();
        cutTowardsZero();
        dividedByZero();
        whatIsNotAsked();
        whatIsAsked();
        faultIsOfTheLatest();
    }

    /** Whether a TEST is so, by a NOTE that is BARRED then. */
    private static void so(String test, boolean want) {
        CounterDesk x = Check.desk(5, 5);
        Check.inForce(x, "bars if " + test);
        Check.due(test, x.of(0, 4), want ? 1 : 0);
    }

    /** A BROKEN TEST is not so, whether it is turned about or not. */
    private static void broken(String test) {
        so(test, false);
        so("not (" + test + ")", false);
        so("not not (" + test + ")", false);
    }

    private static void isSum(String sum, int want) {
        so("[" + sum + "]=" + (want < 0 ? "0-" + -(long) want : "" + want), true);
        so("not [" + sum + "]=" + (want < 0 ? "0-" + -(long) want : "" + want), false);
    }

    private static void brokenSum(String sum) {
        broken("[" + sum + "]=0");
        broken("0<" + sum);
        broken(sum + ">0");
    }

    private static void letters() {
        Check.about("TOKENS: longest rows of letters a .. z");
        Check.faultOfLaw("bars", -1);
        Check.faultOfLaw("barsa", 0);
        Check.faultOfLaw("barsz", 0);
        Check.faultOfLaw("bars`", 4);
        Check.faultOfLaw("bars{", 4);
        Check.faultOfLaw("barsA", 4);
        Check.faultOfLaw("barsZ", 4);
        Check.faultOfLaw("zbars", 0);
        Check.faultOfLaw("`bars", 0);
        Check.faultOfLaw("bar s", 0);
        Check.faultOfLaw("bar", 0);
        Check.faultOfLaw("bars ifa=1", 5);
        Check.faultOfLaw("bars if place=1oror", 15);
        Check.faultOfLaw("bars if place=1or2=2", -1);
        Check.faultOfLaw("costs plac", 6);
        Check.faultOfLaw("costs placee", 6);
        Check.faultOfLaw(Check.times("a", 400), 0);
        Check.faultOfLaw("bars" + Check.times("s", 396), 0);
    }

    private static void digits() {
        Check.about("TOKENS: longest rows of digits");
        Check.faultOfLaw("costs 0", -1);
        Check.faultOfLaw("costs 9", -1);
        Check.faultOfLaw("costs /", 6);
        Check.faultOfLaw("costs :", 6);
        Check.faultOfLaw("costs 9:", 7);
        Check.faultOfLaw("costs 1 2", 8);
        Check.faultOfLaw("costs 12", -1);
        Check.faultOfLaw("costs1", -1);
        Check.faultOfLaw("costs 1bars", 7);
        Check.faultOfLaw("costs 1;bars", -1);
        isSum("90+09", 99);
        isSum("12", 12);
    }

    private static void singleBytes() {
        Check.about("TOKENS: single other bytes");
        for (int b = 0; b < 256; b++) {
            boolean blank = b == 32;
            boolean letter = b >= 'a' && b <= 'z';
            String text = "bars" + (char) b;
            Check.faultOfLaw(text, blank || letter ? blank ? -1 : 0 : b == ';' ? 5 : 4);
            boolean digit = b >= '0' && b <= '9';
            CounterDesk x = new CounterDesk();
            Check.faultOfOrders(x, "pass " + (char) b + (char) b, blank ? -1 : 5 + (b == ';' ? 1 : 0));
            Check.faultOfLaw("costs 1" + (char) b + "1", digit || "+-*/%".indexOf(b) >= 0 ? -1 : b == ';' || blank ? 8 : 7);
        }
        Check.faultOfLaw("bars if 1<<2", 10);
        Check.faultOfLaw("bars if 1=<2", 10);
        Check.faultOfLaw("bars if ((1=1)", 14);
        Check.faultOfLaw("bars if (1=1))", 13);
        Check.faultOfLaw("costs 1++1", 8);
    }

    private static void blanks() {
        Check.about("TOKENS: any blanks (32) between");
        Check.faultOfLaw("   bars   ;   bars   if   1   =   1   ", -1);
        Check.faultOfLaw("costs[1]*2if(1=1)and 2=2;bars", -1);
        Check.faultOfLaw("bars;" + Check.times(" ", 391) + "bars", -1);
        Check.faultOfLaw("bars" + Check.times(" ", 395) + "x", 399);
        Check.faultOfLaw(" ?", 1);
        Check.faultOfLaw(Check.times(" ", 399) + "?", 399);
        CounterDesk x = Check.desk(1, 1);
        Check.faultOfOrders(x, "  set  0  to  5  times  1  if  1  =  1  ", -1);
        Check.faultOfOrders(x, "set[0]to[6]times 1if(1=1)", -1);
        Check.due("of(0, 1)", x.of(0, 1), 6);
    }

    private static void numbers() {
        Check.about("a NUMBER (to 1,000)");
        String[] can = {"0", "1", "999", "1000", "00", "01000", "0000000000000000000000000000001000"};
        String[] cannot = {"1001", "1002", "9999", "10000", "01001", "2147483647", "2147483648", "4294967296", "4294967297",
            "9223372036854775808", "18446744073709551616", "18446744073709551617"};
        for (String n : can) {
            Check.faultOfLaw("costs " + n, -1);
            Check.faultOfOrders(new CounterDesk(), "pass if day=" + n, -1);
            Check.faultOfOrders(new CounterDesk(), "set " + n + " to [" + n + "]", -1);
        }
        for (String n : cannot) {
            Check.faultOfLaw("costs " + n, 6);
            Check.faultOfLaw("costs 1+[" + n + "]", 9);
            Check.faultOfOrders(new CounterDesk(), "pass if day=" + n, 12);
            Check.faultOfOrders(new CounterDesk(), "set 0 to " + n, 9);
        }
        isSum("1000-999", 1);
        isSum("0001000-0999", 1);
    }

    private static void clauses() {
        Check.about("CLAUSES, 12 at most (FAULT at the 13th's first TOKEN)");
        for (int n = 1; n <= 12; n++) {
            Check.faultOfLaw(Check.times("bars;", n - 1) + "bars", -1);
            Check.faultOfLaw(Check.times("bars;", n), 5 * n);
            Check.faultOfLaw(Check.times("bars;", n) + ";", 5 * n);
            Check.faultOfOrders(new CounterDesk(), Check.times("pass;", n - 1) + "pass", -1);
            Check.faultOfOrders(new CounterDesk(), Check.times("pass;", n), 5 * n);
        }
        for (int n = 13; n < 50; n += 23) {
            Check.faultOfLaw(Check.times("bars;", n - 1) + "bars", 60);
            Check.faultOfLaw(Check.times("bars ; ", n - 1) + "bars", 84);
            Check.faultOfOrders(new CounterDesk(), Check.times("pass;", n - 1) + "pass", 60);
            Check.faultOfOrders(new CounterDesk(), Check.times("swap ; ", n - 1) + "swap", 84);
        }
        Check.faultOfLaw(Check.times("bars;", 12) + "?", 60);
        Check.faultOfLaw(Check.times("bars;", 11) + "bars ?", 60);
        Check.faultOfLaw(Check.times("bars;", 12) + "   ", 63);
        Check.faultOfLaw(Check.times("bars;", 11) + "costs", 60);
    }

    private static String ones(int n) {
        return Check.times("1+", n - 1) + "1";
    }

    private static void parts() {
        Check.about("50 PARTS that are NUMBERS and words (FAULT at the 51st)");
        Check.faultOfLaw("costs " + ones(49), -1);
        Check.faultOfLaw("costs " + ones(50), -1);
        Check.faultOfLaw("costs " + ones(51), 106);
        Check.faultOfLaw("costs " + ones(60), 106);
        String words = Check.times("day+", 49);
        Check.faultOfLaw("costs " + words + "day", -1);
        Check.faultOfLaw("costs " + words + "day+day", 206);
        Check.faultOfLaw("costs " + words + "day+1", 206);
        Check.faultOfLaw("costs " + words + "1+?", 204);
        Check.faultOfLaw("costs " + words + "1+1001", 204);
        Check.faultOfLaw("costs " + words + "1001", 202);
        Check.faultOfLaw("costs " + words + "1+[[1]]", 206);
        Check.faultOfLaw("costs " + words + "1;bars", -1);
        Check.faultOfLaw("costs " + words + "1 if (1=1)", 208);
        Check.faultOfLaw("costs " + words + "1 if (?", 208);
        Check.faultOfLaw("bars if " + ones(25) + "=" + ones(25), -1);
        Check.faultOfLaw("bars if " + ones(25) + "=" + ones(26), 108);
        Check.faultOfLaw("bars if " + Check.times("1=1 or ", 24) + "1=1", -1);
        Check.faultOfLaw("bars if " + Check.times("1=1 or ", 25) + "1=1", 183);
        Check.faultOfLaw("bars if " + Check.times("1=1 and ", 24) + "1=1+1", 204);
        Check.faultOfLaw("costs " + Check.times("[1]+", 49) + "[1]", -1);
        Check.faultOfLaw("costs " + Check.times("[1]+", 50) + "[1]", 207);
        // All CLAUSES of a TEXT together have as many.
        Check.faultOfLaw(Check.times("costs 1+1+1+1+1;", 10) + "bars;bars", -1);
        Check.faultOfLaw(Check.times("costs 1+1+1+1+1;", 10) + "bars;costs 1", 171);
        Check.faultOfLaw("costs " + ones(20) + " if " + ones(15) + "<" + ones(15), -1);
        Check.faultOfLaw("costs " + ones(20) + " if " + ones(15) + "<" + ones(16), 109);
        // What is no PART at all stands where the 51st should.
        String[] behind = {"", "  ", "+1", ";bars", " if 1=1", "*", ")", "?"};
        for (String b : behind) {
            int blanks = b.startsWith(" ") ? b.trim().isEmpty() ? 2 : 1 : 0;
            Check.faultOfLaw("costs " + ones(50) + "+" + b, 106 + blanks);
            Check.faultOfLaw("costs " + ones(50) + "%" + b, 106 + blanks);
        }
        Check.faultOfLaw("costs [" + ones(50) + "+]", 107);
        Check.faultOfLaw("bars if " + ones(50) + "=", 108);
        Check.faultOfLaw("bars if (" + ones(50) + "<)", 109);
        Check.faultOfLaw("bars if " + ones(50) + "= or 1=1", 109);
        CounterDesk x = Check.desk(0, 0);
        Check.inForce(x, "costs " + ones(50));
        Check.due("of(0, 2) by 50 PARTS", x.of(0, 2), 50);
    }

    private static void partsOfOrders() {
        Check.about("N, TIMES aside, NUMBERS and words count as PARTS");
        CounterDesk x = Check.desk(1, 2);
        String here = Check.times("here 0+", 49);
        Check.faultOfOrders(x, "pass times 20 if 0<" + Check.times("here 0+", 48) + "here 0", -1);
        Check.faultOfOrders(x, "pass times 20 if " + here + "here 0<0", 17 + 343 + 7);
        Check.faultOfOrders(x, "pass times 20 if 0<" + here + "under 0", 19 + 343);
        Check.faultOfOrders(x, "pass if " + here + "here", 8 + 343 + 4);
        Check.faultOfOrders(x, "set " + ones(25) + " to " + ones(25), -1);
        Check.faultOfOrders(x, "set " + ones(25) + " to " + ones(26), 4 + 49 + 4 + 50);
        Check.faultOfOrders(x, "shift " + ones(49) + " to 1 times 20;swap", -1);
        Check.faultOfOrders(x, "shift " + ones(49) + " to 1 times 20;swap if 1=1", 6 + 97 + 14 + 9);
        Check.faultOfOrders(x, "set " + ones(50) + " to 1", 4 + 99 + 4);
        Check.faultOfOrders(x, "set " + ones(51) + " to 1", 4 + 100);
    }

    private static String within(int n, String inner) {
        return Check.times("[", n) + inner + Check.times("]", n);
    }

    private static String inRound(int n, String inner) {
        return Check.times("(", n) + inner + Check.times(")", n);
    }

    private static void brackets() {
        Check.about("8 brackets of both kinds within one another (FAULT at the 9th)");
        for (int n = 0; n <= 8; n++) {
            Check.faultOfLaw("costs " + within(n, "1"), -1);
            Check.faultOfLaw("bars if " + inRound(n, "1=1"), -1);
            Check.faultOfLaw("bars if " + inRound(n, within(8 - n, "1") + "=" + within(8 - n, "1")), -1);
            Check.faultOfLaw("bars if " + inRound(n, within(9 - n, "1") + "=1"), 16);
            Check.faultOfLaw("bars if " + inRound(n, "1=" + within(9 - n, "1")), 18);
        }
        for (int n = 9; n < 12; n++) {
            Check.faultOfLaw("costs " + within(n, "1"), 14);
            Check.faultOfLaw("bars if " + inRound(n, "1=1"), 16);
        }
        Check.faultOfLaw("costs " + Check.times("[", 394), 14);
        Check.faultOfLaw("bars if " + Check.times("(", 392), 16);
        // One behind the other they are not within one another.
        Check.faultOfLaw("costs " + within(8, "1") + "+" + within(8, "1") + "*" + within(8, "1"), -1);
        Check.faultOfLaw("bars if " + inRound(8, "1=1") + " and " + inRound(8, "1=1") + " or " + inRound(8, "1=1"), -1);
        Check.faultOfLaw("costs " + within(8, "1") + ";costs " + within(8, "1") + ";bars if " + within(8, "1") + "=1", -1);
        Check.faultOfLaw("costs " + within(7, "1+[1]+[1]"), -1);
        Check.faultOfLaw("costs " + within(8, "1+[1]"), 16);
        Check.faultOfLaw("bars if " + Check.times("not (", 8) + "1=1" + Check.times(")", 8), -1);
        Check.faultOfLaw("bars if " + Check.times("not (", 9) + "1=1" + Check.times(")", 9), 52);
        // Those that do not fit.
        Check.faultOfLaw("costs []", 7);
        Check.faultOfLaw("bars if ()", 9);
        Check.faultOfLaw("bars if (1=1]", 12);
        Check.faultOfLaw("bars if [1=1]", 10);
        Check.faultOfLaw("costs [1", 8);
        Check.faultOfLaw("bars if (1+1)=2", 12);
        CounterDesk x = Check.desk(0, 0);
        Check.inForce(x, "costs " + within(8, "7"));
        Check.due("of(0, 2) by 8 brackets", x.of(0, 2), 7);
    }

    private static void bracketsOfOrders() {
        Check.about("8 brackets of both kinds within one another, ORDERS");
        CounterDesk x = Check.desk(0, 0, 0, 0);
        Check.faultOfOrders(x, "set " + within(8, "1") + " to " + within(8, "7") + " if " + inRound(8, "1=1"), -1);
        Check.due("of(1, 1)", x.of(1, 1), 7);
        Check.faultOfOrders(x, "set " + within(9, "1") + " to 8", 12);
        Check.faultOfOrders(x, "set 1 to " + within(9, "8"), 17);
        Check.faultOfOrders(x, "pass if " + inRound(9, "1=1"), 16);
        Check.faultOfOrders(x, "pass if " + inRound(4, within(5, "1") + "=1"), 16);
    }

    private static void faultAtTheEnd() {
        Check.about("FAULT: the end's: the TEXT's length");
        String[] cut = {"", "costs", "costs [", "costs 1+", "bars if", "bars if not", "bars if (", "bars if 1", "bars if 1=",
            "bars if 1=1 or", "bars if 1=1 and", "bars if (1=1", "costs [1", "costs 1;", "bars;"};
        for (String text : cut) {
            for (int n = 0; n < 4; n++) {
                Check.faultOfLaw(text + Check.times(" ", n), text.length() + n);
            }
            Check.faultOfLaw(text + Check.times(" ", 399 - text.length()), 399);
            Check.faultOfLaw(text + Check.times(" ", 400 - text.length()), 400);
        }
        String[] orders = {"", "set", "set 0", "set 0 to", "shift", "shift 0 to [", "pass times", "pass if", "swap;", "pass if here",
            "pass if under", "set here"};
        for (String text : orders) {
            for (int n = 0; n < 4; n++) {
                Check.faultOfOrders(new CounterDesk(), text + Check.times(" ", n), text.length() + n);
            }
            Check.faultOfOrders(new CounterDesk(), text + Check.times(" ", 400 - text.length()), 400);
        }
    }

    private static void longTexts() {
        Check.about("TEXTS as long as the TAPE");
        CounterDesk x = Check.desk(0, 0);
        Check.inForce(x, "costs " + Check.times("0", 393) + "7");
        Check.due("of(0, 2) by 394 digits", x.of(0, 2), 7);
        Check.faultOfLaw("costs " + Check.times("9", 394), 6);
        Check.faultOfLaw("costs " + Check.times("0", 390) + "1001", 6);
        Check.inForce(x, "bars if " + Check.times("not ", 96) + "1=1" + Check.times(" ", 5));
        Check.due("of(0, 4) by 96 not", x.of(0, 4), 1);
        Check.inForce(x, "bars if " + Check.times("not ", 97) + "1=1 ");
        Check.due("of(0, 4) by 97 not", x.of(0, 4), 0);
        Check.faultOfLaw("bars if " + Check.times("not ", 98), 400);
        Check.inForce(x, Check.times(" ", 393) + "costs 3");
        Check.due("of(0, 2): its last byte counts", x.of(0, 2), 3);
    }

    private static final String MOST = "1000*1000*1000";

    private static void sumLimit() {
        Check.about("Beyond 1,000,000,000 either way a SUM is BROKEN");
        so(MOST + ">0", true);
        so(MOST + "=1000*[1000*1000]", true);
        so(MOST + "-1<" + MOST, true);
        so(MOST + "+0=" + MOST, true);
        so(MOST + "*1=" + MOST, true);
        so(MOST + "/1=" + MOST, true);
        so("[0-" + MOST + "]<0", true);
        so("[0-" + MOST + "]+" + MOST + "=0", true);
        so("[0-" + MOST + "]/[0-1]=" + MOST, true);
        so(MOST + "*[0-1]=0-" + MOST, true);
        so("999*1000*1000+1000*999+999+1=" + MOST, true);
        so(MOST + "%1000=0", true);
        brokenSum(MOST + "+1");
        brokenSum("1+" + MOST);
        brokenSum("0-" + MOST + "-1");
        brokenSum("[0-1]-" + MOST);
        brokenSum("1000*1000*1000*2");
        brokenSum("1000*1000*[1000+1]");
        brokenSum("[0-1000]*1000*[1000+1]");
        brokenSum(MOST + "+" + MOST);
        brokenSum("[" + MOST + "]*[" + MOST + "]");
        brokenSum("[" + MOST + "]*[0-" + MOST + "]");
        brokenSum("[0-" + MOST + "]*[0-" + MOST + "]");
        brokenSum("0-" + MOST + "-" + MOST);
        // What wraps around within 32 bits to something small, and within 31 bits to something below 0.
        brokenSum("[" + MOST + "]*5");
        brokenSum("[" + MOST + "]*3");
        brokenSum("256*256*256*256");
        brokenSum("512*512*512*512*512*512*512");
        // Each step of a SUM is one.
        brokenSum(MOST + "+1-1");
        brokenSum(MOST + "*2/4");
        brokenSum("0*[" + MOST + "+1]");
    }

    private static void cutTowardsZero() {
        Check.about("/ cut towards 0, % what is left then, below 0 if the first is");
        int[][] pairs = {{7, 2}, {-7, 2}, {7, -2}, {-7, -2}, {1, 2}, {-1, 2}, {1, -2}, {-1, -2}, {6, 3}, {-6, 3}, {0, 5}, {0, -5},
            {999, 1000}, {-999, 1000}, {1000, 999}, {-1000, 999}, {5, 1}, {-5, 1}, {5, -1}, {-5, -1}, {24, 7}, {-24, 7}};
        for (int[] p : pairs) {
            String a = p[0] < 0 ? "[0-" + -p[0] + "]" : "" + p[0];
            String b = p[1] < 0 ? "[0-" + -p[1] + "]" : "" + p[1];
            int cut = (int) ((double) p[0] / p[1]);
            isSum(a + "/" + b, cut);
            isSum(a + "%" + b, p[0] - cut * p[1]);
        }
    }

    private static void dividedByZero() {
        Check.about("divided by 0 a SUM is BROKEN");
        String[] sums = {"1/0", "0/0", "1%0", "0%0", "1/[1-1]", "[0-1]/0", "[0-1]%[2-2]", "1/place", "5%apart", MOST + "/0", "0*[1/0]",
            "1/0*0", "1/[1/2]", "1%[0/5]", "7+1/0-1/0"};
        for (String s : sums) {
            brokenSum(s);
        }
        isSum("0/1", 0);
        isSum("0%1", 0);
        isSum("0/[0-1]", 0);
    }

    private static void whatIsNotAsked() {
        Check.about("\"or\", \"and\" ask what stands behind only if it can still matter");
        String[] isSo = {"1=1 or 1/0=1", "1=1 or 1/0=1 or 1/0=2", "1=2 or 1=1 or 1/0=1", "1=2 and 1/0=1 or 1=1",
            "1=1 or 1/0=1 and 1/0=2", "(1=1 or 1/0=1) and (2=2 or 1/0=1)", "not (1=2 and 1/0=1)", "1=2 and 1/0=1 and 1/0=2 or 1=1",
            "1=1 and 1=1 or 1/0=1", "not (1=2 or 1=2) or 1/0=1", "1=1 or (1/0=1 or 1=1)", "not (1=1 and (1=2 and 1/0=1))"};
        for (String test : isSo) {
            so(test, true);
        }
        String[] isNot = {"1=2 and 1/0=1", "1=2 and 1/0=1 and 1/0=2", "1=1 and 1=2 and 1/0=1", "not (1=1 or 1/0=1)",
            "1=2 and (1/0=1 or 1=1)", "(1=2 and 1/0=1) or (1=2 and 1/0=1)", "1=2 or 1=2 and 1/0=1"};
        for (String test : isNot) {
            so(test, false);
            so("not (" + test + ")", true);
        }
    }

    private static void whatIsAsked() {
        Check.about("a part that was asked and is BROKEN makes all of it BROKEN");
        String[] tests = {"1/0=1", "1=1/0", "1/0=1/0", "1/0<1", "1/0>1", "1/0=1 or 1=1", "1/0=1 and 1=2", "1=2 or 1/0=1", "1=1 and 1/0=1",
            "1=1 and 1/0=1 or 1=1", "1=2 or 1/0=1 or 1=1", "1=1 and 1/0=1 and 1=2", "(1/0=1) or 1=1", "not 1/0=1 or 1=1",
            "(1=2 or 1/0=1) or 1=1", "1=2 and 1=1 or 1/0=1", "1=2 and 1/0=1 or 1/0=2", "not (1/0=1) and 1=2", MOST + "+1>0 or 1=1"};
        for (String test : tests) {
            broken(test);
        }
    }

    private static void faultIsOfTheLatest() {
        Check.about("promise 13: of the latest law(), orders() that read a TEXT; NONE without");
        CounterDesk x = new CounterDesk();
        Check.due("fault() ahead of any", x.fault(), -1);
        Check.due("law() of an empty TAPE", x.law(), -6);
        Check.due("fault()", x.fault(), 0);
        Check.law(x, "bars");
        Check.due("fault() without", x.fault(), -1);
        Check.orders(x, "   ");
        Check.due("fault() of orders", x.fault(), 3);
        Check.orders(x, "pass");
        Check.due("fault() without", x.fault(), -1);
        Check.law(x, "bars bars");
        Check.due("fault()", x.fault(), 5);
        x.row();
        x.image(0);
        x.note(99, 99);
        Check.due("fault() behind other calls", x.fault(), 5);
        for (int i = 0; i < 5; i++) {
            Check.law(x, "bars");
        }
        Check.due("fault() without", x.fault(), -1);
        Check.orders(x, "?");
        Check.due("fault()", x.fault(), 0);
        Check.due("a law that is not read", Check.law(x, "bars"), -5);
        Check.due("fault() stays", x.fault(), 0);
        Check.due("a law that is not read", Check.law(x, "bars bars"), -5);
        Check.due("fault() stays", x.fault(), 0);
        Check.orders(x, "swap");
        Check.due("fault() of ORDERS that can be read and can't be", x.fault(), -1);
        Check.due("status()", x.status(), -3);
    }
}
