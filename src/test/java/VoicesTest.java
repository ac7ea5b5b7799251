/** Promises 21 to 29 and 35: VOICES, CANON, PARALLELS, COMPARED. */
final class VoicesTest {
    private static final String SEVEN_APART = "bars if not apart=7";

    private VoicesTest() {
    }

    static void run() {
        withoutNotes();
        withoutVoices();
        best();
        between();
        richest();
        ways();
        mend();
        compass();
        cheapest();
        canon();
        parallels();
        compare();
        onPaper();
        followsWhatChanges();
    }

    private static void withoutNotes() {
        Check.about("promises 21 to 29, 35 without NOTES");
        CounterDesk x = new CounterDesk();
        Check.law(x, "bars");
        for (int k = 0; k < 2; k++) {
            Check.due("best(-1)", x.best(-1), 0);
            Check.due("best(0)", x.best(0), -1);
            Check.due("best(-2)", x.best(-2), -1);
            Check.due("between(0, 0)", x.between(0, 0), -1);
            Check.due("richest()", x.richest(), 0);
            Check.due("ways()", x.ways(), 1);
            Check.due("mend(-1)", x.mend(-1), 0);
            Check.due("mend(0)", x.mend(0), -1);
            Check.due("compass(0)", x.compass(0), k == 0 ? 0 : -1);
            Check.due("compass(1)", x.compass(1), k == 0 ? 0 : -1);
            Check.due("cheapest(0, 0)", x.cheapest(0, 0), -1);
            Check.due("canon(1, -1)", x.canon(1, -1), -1000);
            Check.due("parallels(0)", x.parallels(0), 0);
            Check.due("compare(0)", x.compare(0), 0);
            Check.due("compare(-1)", x.compare(-1), 0);
            Check.due("compare(1)", x.compare(1), -1);
            x.terms(3, 9);
            x.terms(4, 8);
        }
        x.terms(4, 9);
        Check.due("compass(1)", x.compass(1), 9);
        Check.due("compass(2)", x.compass(2), -1);
    }

    private static void withoutVoices() {
        Check.about("promises 21 to 27, 35 without a VOICE");
        CounterDesk x = Check.desk(0, 0, 1, 1);
        Check.law(x, "bars if here>under");
        for (int k = 0; k < 3; k++) {
            if (k == 0) {
                x.terms(3, 20);
                x.terms(4, 19);
            } else if (k == 1) {
                x.terms(3, 20);
                x.terms(4, 24);
                Check.inForce(x, "bars if place=1");
            } else {
                Check.inForce(x, "bars");
            }
            Check.due("best(-1)", x.best(-1), -1);
            Check.due("best(1)", x.best(1), -1);
            Check.due("between(20, 20)", x.between(20, 20), -1);
            Check.due("richest()", x.richest(), -1);
            Check.due("ways()", x.ways(), 0);
            Check.due("mend(-1)", x.mend(-1), -1);
            Check.due("mend(0)", x.mend(0), -1);
            Check.due("compass(0)", x.compass(0), -1);
            Check.due("compass(1)", x.compass(1), -1);
            Check.due("cheapest(1, 0)", x.cheapest(1, 0), -1);
            Check.due("cheapest(1, 1)", x.cheapest(1, 1), -1);
            Check.due("compare(0)", x.compare(0), -1);
        }
        Check.due("compare(NONE)", x.compare(-1), 0);
    }

    private static void best() {
        Check.about("promise 21");
        CounterDesk x = Check.desk(5, 24, 9, 24, 2, 24);
        Check.due("best(-1)", x.best(-1), 0);
        Check.due("best(2): the first of many", x.best(2), 0);
        Check.inForce(x, SEVEN_APART);
        Check.due("best(-1)", x.best(-1), 11);
        int[] only = {12, 16, 9};
        for (int i = 0; i < 3; i++) {
            Check.due("best(" + i + ")", x.best(i), only[i]);
        }
        Check.due("best(3)", x.best(3), -1);
        Check.due("best(-2)", x.best(-2), -1);
        // It pays to begin dearly here: a leap down is barred, and the last NOTE must be low.
        Check.inForce(x, "bars if leap<0;costs 20-here if last=1;costs here");
        Check.due("best(-1)", x.best(-1), 0);
        Check.inForce(x, "costs [here-under]*[here-under];bars if apart=0;bars if leap=1 or leap=0-1");
        Check.due("best(-1)", x.best(-1), 3);
        Check.due("best(0): the first as a row of PITCHES", x.best(0), 4);
        Check.due("best(1)", x.best(1), 8);
        Check.due("best(2)", x.best(2), 1);
        x.terms(3, 6);
        Check.due("best(-1) from LOW 6", x.best(-1), 1 + 1 + 16);
    }

    private static void between() {
        Check.about("promise 22");
        CounterDesk x = Check.desk(0, 0, 0, 0, 0, 0);
        Check.due("between(3, 10)", x.between(3, 10), 7);
        Check.due("between(24, 0)", x.between(24, 0), 24);
        int[][] others = {{-1, 0}, {0, -1}, {25, 0}, {0, 25}, {Integer.MIN_VALUE, Integer.MAX_VALUE}};
        for (int[] o : others) {
            Check.due("between(" + o[0] + ", " + o[1] + ")", x.between(o[0], o[1]), -1);
        }
        Check.inForce(x, "costs leap*leap");
        Check.due("between(3, 10) by law", x.between(3, 10), 9 + 16);
        Check.inForce(x, "bars if leap=0 and place>0;bars if place=1 and here=5");
        Check.due("between(5, 5)", x.between(5, 5), 2);
        x.terms(3, 4);
        x.terms(4, 5);
        Check.due("between(5, 5) within 4 and 5", x.between(5, 5), 2);
        Check.due("between(4, 4): 5 is barred in between", x.between(4, 4), -1);
        Check.due("between(3, 5): beyond LOW", x.between(3, 5), -1);
        Check.due("between(5, 6): beyond HIGH", x.between(5, 6), -1);
        CounterDesk one = Check.desk(7, 7);
        Check.due("one NOTE that begins and ends", one.between(9, 9), 0);
        Check.due("one NOTE can't be both", one.between(9, 8), -1);
        Check.inForce(one, "bars if here=9");
        Check.due("one NOTE that is BARRED", one.between(9, 9), -1);
    }

    private static void richest() {
        Check.about("promise 23");
        CounterDesk x = Check.desk(0, 0, 0, 0);
        Check.due("richest()", x.richest(), 2);
        Check.inForce(x, "earns here");
        Check.due("richest() by law", x.richest(), 48);
        Check.inForce(x, "earns here;bars if leap=0 and place=1");
        Check.due("richest() without a repeat", x.richest(), 47);
        Check.inForce(x, "earns 0");
        Check.due("richest() of nothing to earn", x.richest(), 0);
        Check.inForce(x, "earns 1000");
        Check.due("richest() of 99 each", x.richest(), 198);
        x.terms(4, 3);
        x.force(0);
        Check.due("richest() to HIGH 3", x.richest(), 6);
    }

    private static void ways() {
        Check.about("promise 24");
        CounterDesk x = new CounterDesk();
        long want = 1;
        for (int i = 0; i < 12; i++) {
            x.note(i, 24 - i);
            want *= 25;
            Check.due("ways() of " + (i + 1), x.ways(), want);
        }
        Check.inForce(x, "bars if leap*leap>1");
        long[] many = new long[27];
        java.util.Arrays.fill(many, 1, 26, 1);
        for (int i = 1; i < 12; i++) {
            long[] next = new long[27];
            for (int h = 1; h <= 25; h++) {
                next[h] = many[h - 1] + many[h] + many[h + 1];
            }
            many = next;
        }
        Check.due("ways() by steps alone", x.ways(), java.util.Arrays.stream(many).sum());
        Check.inForce(x, SEVEN_APART);
        Check.due("ways() of one", x.ways(), 1);
        x.terms(4, 17);
        Check.due("ways() of none", x.ways(), 0);
    }

    private static void mend() {
        Check.about("promise 25");
        CounterDesk x = Check.desk(0, 7, 2, 5, 4, 11);
        Check.due("mend(-1): nothing is wrong", x.mend(-1), 0);
        Check.due("mend(1)", x.mend(1), 5);
        Check.inForce(x, SEVEN_APART);
        Check.due("mend(-1)", x.mend(-1), 1);
        int[] want = {7, 9, 11};
        for (int i = 0; i < 3; i++) {
            Check.due("mend(" + i + ")", x.mend(i), want[i]);
        }
        Check.due("mend(3)", x.mend(3), -1);
        Check.due("mend(-2)", x.mend(-2), -1);
        Check.inForce(x, "bars if here=5");
        Check.due("mend(1): the first such", x.mend(1), 0);
        // Either the first two or the last two could be mended; the first row of PITCHES counts.
        Check.inForce(x, "bars if place>0 and leap=0-2;bars if place=2 and leap=6");
        Check.due("mend(-1)", x.mend(-1), 1);
        Check.due("mend(0)", x.mend(0), 7);
        Check.due("mend(1)", x.mend(1), 0);
        x.terms(3, 6);
        x.terms(4, 7);
        Check.inForce(x, "earns 1");
        Check.due("mend(-1) within 6 and 7", x.mend(-1), 2);
        Check.due("mend(1)", x.mend(1), 6);
        Check.due("mend(2)", x.mend(2), 6);
    }

    private static void compass() {
        Check.about("promise 26");
        CounterDesk x = Check.desk(0, 7, 2, 5, 4, 11);
        Check.due("compass(0)", x.compass(0), 0);
        Check.due("compass(1)", x.compass(1), 0);
        Check.inForce(x, SEVEN_APART);
        Check.due("compass(0)", x.compass(0), 4);
        Check.due("compass(1)", x.compass(1), 7);
        x.terms(3, 8);
        Check.due("compass(0): LOW stands", x.compass(0), -1);
        x.terms(3, 0);
        x.terms(4, 10);
        Check.due("compass(1): HIGH stands", x.compass(1), -1);
        x.terms(4, 24);
        Check.inForce(x, "bars if place>0 and leap<2 and leap>0-2;bars if here<3");
        Check.due("compass(0): two apart", x.compass(0), 2);
        Check.due("compass(1): the lowest", x.compass(1), 3);
        Check.inForce(x, "bars if place=0 and here<9;bars if place=1 and here>5 and here<20");
        Check.due("compass(0)", x.compass(0), 0);
        Check.due("compass(1)", x.compass(1), 20);
        Check.due("compass(2)", x.compass(2), -1);
        Check.due("compass(-1)", x.compass(-1), -1);
    }

    private static void cheapest() {
        Check.about("promise 27");
        CounterDesk x = Check.desk(5, 5, 9, 9);
        Check.due("cheapest(0, 0): the lowest other", x.cheapest(0, 0), 0);
        Check.due("cheapest(0, 1)", x.cheapest(0, 1), 0);
        x.shift(0, 0);
        Check.due("cheapest(0, 0): another than there is", x.cheapest(0, 0), 1);
        Check.inForce(x, "bars if apart<0;costs here");
        Check.due("best(-1)", x.best(-1), 9);
        Check.due("cheapest(1, 0)", x.cheapest(1, 0), 0);
        Check.due("cheapest(1, 1)", x.cheapest(1, 1), 0);
        Check.due("cheapest(0, 0)", x.cheapest(0, 0), 1);
        Check.due("cheapest(0, 1)", x.cheapest(0, 1), 10);
        Check.inForce(x, "bars if not moves=0 and place=1");
        Check.due("cheapest(1, 0): as the one ahead", x.cheapest(1, 0), 0);
        Check.due("cheapest(0, 0): as the one behind", x.cheapest(0, 0), 9);
        Check.due("cheapest(2, 0)", x.cheapest(2, 0), -1);
        Check.due("cheapest(-1, 0)", x.cheapest(-1, 0), -1);
        Check.due("cheapest(0, 2)", x.cheapest(0, 2), -1);
        Check.due("cheapest(0, -1)", x.cheapest(0, -1), -1);
        Check.due("of(0, 0): on paper alone", x.of(0, 0), 0);
    }

    private static void canon() {
        Check.about("promise 28");
        CounterDesk x = Check.desk(0, 7, 2, 5, 4, 11);
        Check.due("canon(1, -1)", x.canon(1, -1), 23);
        Check.due("canon(1, 0)", x.canon(1, 0), 0);
        Check.due("canon(1, 22)", x.canon(1, 22), 22);
        Check.due("canon(1, 23)", x.canon(1, 23), -1000);
        Check.due("canon(2, -1)", x.canon(2, -1), 25);
        int[][] others = {{0, -1}, {3, -1}, {-1, -1}, {12, -1}, {1, -2}, {1, Integer.MAX_VALUE}, {Integer.MIN_VALUE, 0}};
        for (int[] o : others) {
            Check.due("canon(" + o[0] + ", " + o[1] + ")", x.canon(o[0], o[1]), -1000);
        }
        x.terms(3, 24);
        x.terms(4, 0);
        Check.due("canon(1, -1): LOW, HIGH aside", x.canon(1, -1), 23);
        CounterDesk low = Check.desk(20, 0, 24, 0);
        Check.due("canon(1, 0): heights below 0", low.canon(1, 0), -20);
        Check.due("canon(1, -1)", low.canon(1, -1), 25);
        // By h, NOTE 1 is HERE at h, NOTE 2 at 2 + h.
        Check.inForce(x, "bars if place=0");
        Check.due("canon: the NOTES ahead are not asked", x.canon(1, -1), 23);
        Check.inForce(x, "bars if place=1 and not ahead+leap+moves=0");
        Check.due("canon: NOTE d has none ahead", x.canon(1, -1), 23);
        Check.inForce(x, "bars if place=2 and not (ahead=3 and leap=2 and moves=2)");
        Check.due("canon: of which the next has one", x.canon(1, -1), 1);
        Check.due("canon(1, 0)", x.canon(1, 0), 5);
        Check.inForce(x, "bars if last=0;bars if under<4");
        Check.due("canon(2, -1): last and UNDER as they are", x.canon(2, -1), 25);
        Check.due("canon(1, -1)", x.canon(1, -1), 0);
        CounterDesk all = new CounterDesk();
        for (int i = 0; i < 12; i++) {
            all.note(i, 0);
        }
        Check.due("canon(11, -1)", all.canon(11, -1), 25);
        Check.due("canon(12, -1)", all.canon(12, -1), -1000);
    }

    private static void parallels() {
        Check.about("promise 29");
        CounterDesk x = Check.desk(0, 7, 2, 9, 21, 2, 5, 24, 17, 24, 4, 11, 6, 12);
        // APART: 7, 7, -19, 19, 7, 7, 6; the LEAP of NOTE 4 is 0.
        Check.due("parallels(7)", x.parallels(7), 2 + 4 + 8 + 32);
        Check.due("parallels(6)", x.parallels(6), 0);
        Check.due("parallels(0)", x.parallels(0), 0);
        Check.due("parallels(-1)", x.parallels(-1), -1);
        Check.due("parallels(12)", x.parallels(12), -1);
        Check.due("parallels(11)", x.parallels(11), 0);
        CounterDesk y = Check.desk(0, 12, 3, 3, 24, 0, 24, 0);
        Check.due("parallels(0) of octaves", y.parallels(0), 2 + 4);
    }

    private static void compare() {
        Check.about("promise 35");
        CounterDesk x = Check.desk(0, 7, 2, 5, 4, 11);
        Check.law(x, SEVEN_APART);
        Check.law(x, "costs 3");
        Check.due("compare(0)", x.compare(0), 4);
        Check.due("compare(1)", x.compare(1), 9);
        Check.due("compare(-1)", x.compare(-1), 0);
        Check.due("compare(2)", x.compare(2), -1);
        Check.due("compare(-2)", x.compare(-2), -1);
        x.force(0);
        Check.due("compare(1): in place of that in FORCE", x.compare(1), 9);
        Check.due("compare(-1)", x.compare(-1), 0);
        Check.due("best(-1)", x.best(-1), 4);
        Check.due("count(11)", x.count(11), 0);
    }

    private static void onPaper() {
        Check.about("what is asked changes nothing");
        CounterDesk x = Check.desk(0, 7, 2, 5);
        x.set(0, 8);
        x.best(-1);
        x.between(1, 2);
        x.richest();
        x.ways();
        x.mend(0);
        x.compass(0);
        x.cheapest(0, 0);
        x.canon(1, 0);
        x.compare(-1);
        Check.due("of(0, 0)", x.of(0, 0), 0);
        Check.due("of(0, 1)", x.of(0, 1), 8);
        Check.due("count(4)", x.count(4), 1);
        Check.due("count(15)", x.count(15), 0);
        Check.due("count(16)", x.count(16), 24);
    }

    private static void followsWhatChanges() {
        Check.about("VOICES follow what changes");
        CounterDesk x = Check.desk(0, 0, 0, 0);
        Check.inForce(x, "costs day+mood*10+under+moves*moves+last*5+100*place");
        Check.due("best(-1)", x.best(-1), 105);
        x.pass();
        Check.due("best(-1) on day 1", x.best(-1), 107);
        x.terms(2, 3);
        Check.due("best(-1) in mood 3", x.best(-1), 167);
        x.shift(0, 2);
        Check.due("best(-1) behind shift()", x.best(-1), 173);
        x.swap();
        Check.due("best(-1) behind swap()", x.best(-1), 167);
        x.undo();
        Check.due("best(-1) behind undo()", x.best(-1), 173);
        x.note(1, 0);
        Check.due("best(-1) of one more", x.best(-1), 31 + 2 + 31 + 4 + 100 + 31 + 1 + 1 + 5 + 200);
        x.force(-1);
        Check.due("best(-1) without a LAW", x.best(-1), 0);
        x.force(0);
        Check.due("between(9, 9)", x.between(9, 9), 406);
    }
}
