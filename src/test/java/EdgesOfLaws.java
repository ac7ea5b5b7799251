/** The bounds that LAWS have: part II from "LAWS, 6 at most" on, promises 11 and 15. */
final class EdgesOfLaws {
    private EdgesOfLaws() {
    }

    static void run() {
        sixLaws();
        noRoom();
        cannotBeRead();
        noForceAtFirst();
        force();
        nearestCosts();
        nearestEarns();
        without();
        wordsOfTheFirst();
        wordsAtTheirMost();
        lastThatHolds();
        brokenClauses();
    }

    private static void sixLaws() {
        Check.about("LAWS, 6 at most");
        CounterDesk x = Check.desk(0, 0);
        for (int i = 0; i < 6; i++) {
            Check.due("count(3)", x.count(3), i);
            Check.due("force(" + i + ") ahead of it", x.force(i), -2);
            Check.due("law " + i, Check.law(x, "costs 10+" + i), i);
            Check.due("status()", x.status(), 0);
            Check.due("count(5): the TAPE is empty then", x.count(5), 0);
        }
        Check.due("count(3)", x.count(3), 6);
        for (int i = 0; i < 6; i++) {
            Check.due("compare(" + i + ")", x.compare(i), 10 + i);
        }
        Check.due("compare(6)", x.compare(6), -1);
    }

    private static void noRoom() {
        Check.about("promise 11: -5 (ahead of reading it; the TAPE is empty then, too)");
        String[] texts = {"bars", "costs 1", "?", "", "   ", Check.times("bars;", 13), Check.times("x", 400)};
        for (String text : texts) {
            Twins.refused("a seventh law: " + text, Twins::fullWithoutTape, x -> Check.law(x, text), -5);
            CounterDesk x = Twins.full();
            Check.due("a seventh law", Check.law(x, text), -5);
            Check.due("count(5)", x.count(5), 0);
            Check.due("count(3)", x.count(3), 6);
            Check.due("fault()", x.fault(), -1);
        }
        CounterDesk x = Twins.full();
        Check.due("count(5)", x.count(5), 400);
        Check.due("a seventh law of a full TAPE", x.law(), -5);
        Check.due("count(5)", x.count(5), 0);
        Check.due("a seventh law of an empty TAPE", x.law(), -5);
        Check.due("count(9)", x.count(9), 2);
        Check.due("count(10)", x.count(10), 0);
    }

    private static void cannotBeRead() {
        Check.about("promise 11: -6 (blanks alone: FAULT at the end)");
        int[] blanks = {0, 1, 2, 20, 399, 400};
        for (int n : blanks) {
            CounterDesk x = new CounterDesk();
            Check.due("law of " + n + " blanks", Check.law(x, Check.times(" ", n)), -6);
            Check.due("fault()", x.fault(), n);
            Check.due("count(5)", x.count(5), 0);
            Check.due("orders of " + n + " blanks", Check.orders(x, Check.times(" ", n)), -6);
            Check.due("fault()", x.fault(), n);
            Check.due("count(10)", x.count(10), 2);
            Check.due("count(3)", x.count(3), 0);
        }
        String[] texts = {"", "    ", "?", "bars 1", "costs 1001", "earns", "bars if 1=1;", Check.times("bars;", 13), "pass"};
        for (String text : texts) {
            Twins.refusedText(text, true, Twins::busy, -6);
            Twins.refusedText(text, true, CounterDesk::new, -6);
        }
        // The sixth, too, is read ahead of being refused or not.
        CounterDesk x = new CounterDesk();
        for (int i = 0; i < 5; i++) {
            Check.law(x, "bars");
        }
        Check.due("a sixth that can't be", Check.law(x, "bars ?"), -6);
        Check.due("fault()", x.fault(), 5);
        Check.due("a sixth", Check.law(x, "bars"), 5);
    }

    private static void noForceAtFirst() {
        Check.about("one is in FORCE (NONE at first: no CLAUSE)");
        CounterDesk x = Check.desk(0, 4, 0, 9);
        Check.due("count(11)", x.count(11), -1);
        Check.law(x, "costs 77;earns 66;bars");
        Check.due("count(11): a LAW is not in FORCE by itself", x.count(11), -1);
        Check.due("of(1, 2)", x.of(1, 2), 5);
        Check.due("of(1, 3)", x.of(1, 3), 1);
        Check.due("of(1, 4)", x.of(1, 4), 0);
        x.force(0);
        Check.due("of(1, 2)", x.of(1, 2), 77);
        Check.due("of(1, 3)", x.of(1, 3), 66);
        Check.due("of(1, 4)", x.of(1, 4), 1);
        x.force(-1);
        Check.due("of(1, 2)", x.of(1, 2), 5);
        Check.due("of(1, 3)", x.of(1, 3), 1);
        Check.due("of(1, 4)", x.of(1, 4), 0);
    }

    private static void force() {
        Check.about("promise 15: NONE: none; which was; -2");
        int[] noLaw = {-2, -3, 2, 3, 5, 6, 7, Integer.MIN_VALUE, Integer.MAX_VALUE};
        for (int law : noLaw) {
            Twins.refused("force(" + law + ")", Twins::busy, x -> x.force(law), -2);
        }
        Twins.refused("force(0) without LAWS", CounterDesk::new, x -> x.force(0), -2);
        Twins.refused("force(6)", Twins::full, x -> x.force(6), -2);
        CounterDesk x = Twins.full();
        int[] row = {5, 0, 5, -1, -1, 0, 0, 4, -1};
        int was = 5;
        for (int law : row) {
            Check.due("force(" + law + ")", x.force(law), was);
            Check.due("status()", x.status(), 0);
            Check.due("count(11)", x.count(11), law);
            was = law;
        }
        for (int slot = 6; slot < 11; slot++) {
            Check.due("count(" + slot + "): NONE is no refusal", x.count(slot), 0);
        }
        Check.due("count(4)", x.count(4), 16);
        CounterDesk none = new CounterDesk();
        Check.due("force(NONE) of none", none.force(-1), -1);
        Check.due("status()", none.status(), 0);
        Check.due("count(6)", none.count(6), 0);
    }

    private static void told(String clauses, int what, int want) {
        CounterDesk x = Check.desk(5, 5);
        Check.inForce(x, clauses);
        Check.due("of(0, " + what + ") by " + clauses, x.of(0, what), want);
        Check.due("all(" + (what - 2) + ") by " + clauses, x.all(what - 2), want);
    }

    private static void nearestCosts() {
        Check.about("A NOTE COSTS 0 .. 999 as the last \"costs\" that HOLDS tells (else the nearest)");
        String[] sums = {"0-1000*1000*1000", "0-2", "0-1", "0", "1", "998", "999", "1000", "999+2", "1000*1000*1000"};
        int[] want = {0, 0, 0, 0, 1, 998, 999, 999, 999, 999};
        for (int i = 0; i < sums.length; i++) {
            told("costs " + sums[i], 2, want[i]);
            CounterDesk x = Check.desk(5, 5);
            Check.inForce(x, "costs " + sums[i]);
            Check.due("best(-1) by costs " + sums[i], x.best(-1), want[i]);
        }
    }

    private static void nearestEarns() {
        Check.about("it EARNS 0 .. 99");
        String[] sums = {"0-1000*1000*1000", "0-2", "0-1", "0", "1", "98", "99", "100", "101", "999", "1000*1000*1000"};
        int[] want = {0, 0, 0, 0, 1, 98, 99, 99, 99, 99, 99};
        for (int i = 0; i < sums.length; i++) {
            told("earns " + sums[i], 3, want[i]);
            CounterDesk x = Check.desk(5, 5);
            Check.inForce(x, "earns " + sums[i]);
            Check.due("richest() by earns " + sums[i], x.richest(), want[i]);
        }
    }

    private static void without() {
        Check.about("without as much as its LEAP is, up or down; it EARNS 1 without; it is BARRED, if \"bars\" HOLDS");
        CounterDesk x = Check.desk(0, 24, 0, 0, 0, 24, 0, 24, 0, 23);
        int[] leaps = {0, 24, 24, 0, 1};
        String[] laws = {"bars if 1=2", "costs 9 if 1=2;earns 9 if 1=2;bars if 1=2", "costs 9 if place=9", "costs 1/0;earns 1/0;bars if 1/0=1"};
        for (int k = -1; k < laws.length; k++) {
            if (k >= 0) {
                Check.inForce(x, laws[k]);
            }
            for (int n = 0; n < 5; n++) {
                Check.due("of(" + n + ", 2)", x.of(n, 2), leaps[n]);
                Check.due("of(" + n + ", 3)", x.of(n, 3), 1);
                Check.due("of(" + n + ", 4)", x.of(n, 4), 0);
            }
        }
        told("costs 0;earns 0", 2, 0);
        told("costs 0;earns 0", 3, 0);
        told("costs 5;costs 6;earns 3;earns 2", 2, 6);
        told("costs 5;costs 6;earns 3;earns 2", 3, 2);
        told("bars if 1=2;bars;bars if 1=2", 4, 1);
    }

    private static void wordsOfTheFirst() {
        Check.about("ahead, leap, moves: 0, if there is none ahead; last: 1, if it is the last one, 0 else");
        CounterDesk x = Check.desk(9, 20);
        Check.inForce(x, "bars if ahead=0 and leap=0 and moves=0 and last=1 and place=0");
        Check.due("of(0, 4) of the only one", x.of(0, 4), 1);
        x.note(3, 24);
        Check.due("of(0, 4): it is not the last one then", x.of(0, 4), 0);
        Check.inForce(x, "bars if ahead=0 and leap=0 and moves=0 and last=0 and place=0");
        Check.due("of(0, 4) of the first", x.of(0, 4), 1);
        Check.due("of(1, 4)", x.of(1, 4), 0);
        Check.inForce(x, "bars if ahead=11 and leap=4 and moves=0-6 and last=1 and place=1");
        Check.due("of(0, 4)", x.of(0, 4), 0);
        Check.due("of(1, 4) of the second", x.of(1, 4), 1);
        CounterDesk y = new CounterDesk();
        for (int i = 0; i < 12; i++) {
            y.note(i, i);
        }
        Check.inForce(y, "bars if last=1;costs place");
        for (int i = 0; i < 12; i++) {
            Check.due("of(" + i + ", 4)", y.of(i, 4), i == 11 ? 1 : 0);
            Check.due("of(" + i + ", 2)", y.of(i, 2), i);
        }
    }

    private static void wordsAtTheirMost() {
        Check.about("words at their least and their most");
        CounterDesk x = Check.desk(0, 24, 24, 0, 0, 24);
        String[] up = {"here=24", "under=0", "apart=24", "ahead=0-24", "leap=24", "moves=0-24"};
        String[] down = {"here=0", "under=24", "apart=0-24", "ahead=24", "leap=0-24", "moves=24"};
        for (int k = 0; k < 6; k++) {
            x.image(0);
            Check.inForce(x, "bars if place=2 and " + up[k] + " or place=1 and " + down[k]);
            Check.due("all(2) by " + up[k] + ", " + down[k], x.all(2), 2);
            x.back(0);
        }
        int[] days = {0, 1, 998, 999};
        for (int day : days) {
            x.terms(0, day);
            x.image(0);
            Check.inForce(x, "bars if day=" + day);
            Check.due("all(2) on DAY " + day, x.all(2), 3);
            x.back(0);
        }
        int[] moods = {0, 1, 8, 9};
        for (int mood : moods) {
            x.terms(2, mood);
            x.image(0);
            Check.inForce(x, "bars if mood=" + mood);
            Check.due("all(2) in MOOD " + mood, x.all(2), 3);
            x.back(0);
        }
    }

    private static void lastThatHolds() {
        Check.about("the last \"costs\" that HOLDS, of 12 CLAUSES");
        StringBuilder text = new StringBuilder();
        for (int c = 0; c < 12; c++) {
            text.append(c == 0 ? "" : ";").append("costs 20+").append(c).append(" if mood<").append(Math.max(0, 10 - c));
        }
        CounterDesk x = Check.desk(3, 3);
        Check.inForce(x, text.toString());
        for (int mood = 0; mood < 10; mood++) {
            x.terms(2, mood);
            Check.due("of(0, 2) in MOOD " + mood, x.of(0, 2), 20 + 9 - mood);
        }
        told("costs 1;costs 2;costs 3;costs 4;costs 5;costs 6;costs 7;costs 8;costs 9;costs 10;costs 11;costs 12", 2, 12);
        told("costs 12" + Check.times(";bars if 1=2", 11), 2, 12);
        told(Check.times("bars if 1=2;", 11) + "bars", 4, 1);
        told("bars" + Check.times(";bars if 1=2", 11), 4, 1);
    }

    private static void brokenClauses() {
        Check.about("A CLAUSE HOLDS, if neither its \"if\" nor its SUM is BROKEN");
        told("costs 5;costs 1/0", 2, 5);
        told("costs 5;costs 6 if 1/0=1", 2, 5);
        told("costs 5;costs 6 if not 1/0=1", 2, 5);
        told("costs 5;costs 1/0 if 1=2", 2, 5);
        told("costs 5;costs 6;costs 1/0;costs 1%0", 2, 6);
        told("costs 5;costs 1000*1000*1000", 2, 999);
        told("costs 5;costs 1000*1000*1000+1", 2, 5);
        told("costs 5;costs 0-1000*1000*1000", 2, 0);
        told("costs 5;costs 0-1000*1000*1000-1", 2, 5);
        told("earns 5;earns 1/0", 3, 5);
        told("earns 5;earns 1000*1000*1000", 3, 99);
        told("earns 5;earns 1000*1000*1000+1", 3, 5);
        told("earns 5;earns 0-1000*1000*1000-1", 3, 5);
        told("bars if 1/0=1", 4, 0);
        told("bars if not 1/0=1", 4, 0);
        told("bars;bars if 1/0=1", 4, 1);
        CounterDesk x = Check.desk(5, 5, 5, 5);
        Check.inForce(x, "costs 9/leap;bars if 9/place=9");
        Check.due("of(0, 2): BROKEN", x.of(0, 2), 0);
        Check.due("of(1, 2): BROKEN", x.of(1, 2), 0);
        Check.due("of(0, 4): BROKEN", x.of(0, 4), 0);
        Check.due("of(1, 4): not BROKEN", x.of(1, 4), 1);
        x.set(1, 8);
        Check.due("of(1, 2): not BROKEN", x.of(1, 2), 3);
    }
}
