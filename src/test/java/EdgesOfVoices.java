import java.util.function.Supplier;

/** The bounds of part III that are of VOICES, CANONS, PARALLELS: promises 21 to 29 and 35. */
final class EdgesOfVoices {
    private static final int[] NO_NOTE = {-2, -3, 3, 4, 11, 12, Integer.MIN_VALUE, Integer.MAX_VALUE};

    private EdgesOfVoices() {
    }

    static void run() {
        withoutNotes();
        withoutNotesAgain();
        withoutVoices();
        lowAtLeastHighAtMost();
        best();
        bestOfTwelve();
        between();
        betweenOfOne();
        richest();
        ways();
        mend();
        compass();
        compassWithoutNotes();
        cheapest();
        canonHeights();
        canonOthers();
        canonBarred();
        parallels();
        compare();
        askedAgain();
    }

    private static CounterDesk twelve(int under, int here) {
        CounterDesk x = new CounterDesk();
        for (int i = 0; i < 12; i++) {
            x.note(under, here);
        }
        return x;
    }

    private static void limits(CounterDesk x, int low, int high) {
        x.terms(3, low);
        x.terms(4, high);
    }

    private static void withoutNotes() {
        Check.about("no NOTES, whatever LOW and HIGH are");
        int[][] bounds = {{0, 24}, {24, 24}, {0, 0}, {24, 0}, {9, 8}, {12, 12}};
        for (int[] b : bounds) {
            CounterDesk x = new CounterDesk();
            Check.inForce(x, "bars");
            limits(x, b[0], b[1]);
            String when = " within " + b[0] + ", " + b[1];
            Check.due("best(NONE)" + when, x.best(-1), 0);
            Check.due("richest()" + when, x.richest(), 0);
            Check.due("ways()" + when, x.ways(), 1);
            Check.due("mend(NONE)" + when, x.mend(-1), 0);
            Check.due("compare(0)" + when, x.compare(0), 0);
            Check.due("compare(NONE)" + when, x.compare(-1), 0);
            Check.due("compare(1)" + when, x.compare(1), -1);
            Check.due("between(b, b)" + when, x.between(b[0], b[0]), -1);
            Check.due("cheapest(0, 0)" + when, x.cheapest(0, 0), -1);
            Check.due("cheapest(0, 1)" + when, x.cheapest(0, 1), -1);
            Check.due("canon(1, NONE)" + when, x.canon(1, -1), -1000);
            Check.due("parallels(0)" + when, x.parallels(0), 0);
            for (int i : new int[] {-2, 0, 1, 11, 12}) {
                Check.due("best(" + i + ")" + when, x.best(i), -1);
                Check.due("mend(" + i + ")" + when, x.mend(i), -1);
            }
        }
    }

    private static void withoutNotesAgain() {
        Check.about("no NOTES, behind questions of some");
        CounterDesk x = new CounterDesk();
        Check.inForce(x, "costs 5;earns 6;bars if here=0");
        x.image(0);
        for (int k = 0; k < 3; k++) {
            x.note(1, 0);
            x.note(2, 0);
            if (k == 1) {
                limits(x, 0, 0);
            }
            x.best(-1);
            x.mend(-1);
            x.richest();
            x.ways();
            x.compass(1);
            x.cheapest(0, 0);
            Check.due("compare(0) of some", x.compare(0), k == 1 ? -1 : 10);
            x.back(0);
            if (k == 2) {
                limits(x, 7, 6);
            }
            Check.due("best(NONE)", x.best(-1), 0);
            Check.due("best(0)", x.best(0), -1);
            Check.due("richest()", x.richest(), 0);
            Check.due("ways()", x.ways(), 1);
            Check.due("mend(NONE)", x.mend(-1), 0);
            Check.due("mend(0)", x.mend(0), -1);
            Check.due("compare(0)", x.compare(0), 0);
            Check.due("between(1, 1)", x.between(1, 1), -1);
            Check.due("cheapest(0, 1)", x.cheapest(0, 1), -1);
            Check.due("compass(0)", x.compass(0), k == 2 ? -1 : 0);
            Check.due("compass(1)", x.compass(1), k == 2 ? -1 : 0);
        }
    }

    private static void none(String why, Supplier<CounterDesk> make, int law) {
        Check.about("NONE: there is none: " + why);
        for (int i = -1; i < 3; i++) {
            int note = i;
            Twins.untold("best(" + i + ")", make, x -> x.best(note), -1);
            Twins.untold("mend(" + i + ")", make, x -> x.mend(note), -1);
        }
        for (int what = 0; what < 2; what++) {
            int w = what;
            Twins.untold("compass(" + what + ")", make, x -> x.compass(w), -1);
            Twins.untold("cheapest(0, " + what + ")", make, x -> x.cheapest(0, w), -1);
        }
        CounterDesk x = make.get();
        Check.due("richest()", x.richest(), -1);
        Check.due("ways()", x.ways(), 0);
        Check.due("compare(" + law + ")", x.compare(law), -1);
        for (int p = 0; p < 25; p += 6) {
            Check.due("between(" + p + ", " + p + ")", x.between(p, p), -1);
            Check.due("between(0, " + p + ")", x.between(0, p), -1);
            Check.due("between(" + p + ", 24)", x.between(p, 24), -1);
        }
    }

    private static void withoutVoices() {
        none("LOW is beyond HIGH by one", () -> {
            CounterDesk x = Twins.busy();
            limits(x, 13, 12);
            return x;
        }, 1);
        none("LOW is beyond HIGH as far as can be", () -> {
            CounterDesk x = Twins.busy();
            limits(x, 24, 0);
            return x;
        }, -1);
        none("all are BARRED", () -> {
            CounterDesk x = Check.desk(1, 1, 2, 2, 3, 3);
            Check.inForce(x, "bars");
            return x;
        }, 0);
        none("the last NOTE is BARRED", () -> {
            CounterDesk x = Check.desk(1, 1, 2, 2, 3, 3);
            Check.inForce(x, "bars if last=1");
            return x;
        }, 0);
        none("each PITCH is BARRED behind each", () -> {
            CounterDesk x = Check.desk(1, 1, 2, 2, 3, 3);
            limits(x, 6, 9);
            Check.inForce(x, "bars if leap<4 and leap>0-4 and place>0");
            return x;
        }, 0);
    }

    private static void lowAtLeastHighAtMost() {
        Check.about("VOICES: each LOW at least and HIGH at most");
        int[][] bounds = {{0, 0}, {24, 24}, {7, 7}, {0, 24}, {0, 1}, {23, 24}, {6, 9}};
        for (int[] b : bounds) {
            CounterDesk x = Check.desk(9, 0, 9, 24, 9, 12);
            limits(x, b[0], b[1]);
            long wide = b[1] - b[0] + 1;
            String when = " within " + b[0] + ", " + b[1];
            Check.due("ways()" + when, x.ways(), wide * wide * wide);
            Check.due("best(-1)" + when, x.best(-1), 0);
            Check.due("best(2)" + when, x.best(2), b[0]);
            Check.due("between(LOW, HIGH)" + when, x.between(b[0], b[1]), b[1] - b[0]);
            Check.due("between(HIGH, LOW)" + when, x.between(b[1], b[0]), b[1] - b[0]);
            Check.due("between(LOW less 1, LOW)" + when, x.between(b[0] - 1, b[0]), -1);
            Check.due("between(LOW, LOW less 1)" + when, x.between(b[0], b[0] - 1), -1);
            Check.due("between(HIGH and 1, HIGH)" + when, x.between(b[1] + 1, b[1]), -1);
            Check.due("between(HIGH, HIGH and 1)" + when, x.between(b[1], b[1] + 1), -1);
            Check.inForce(x, "earns here;costs 24-here");
            Check.due("richest(): HIGH can be" + when, x.richest(), 3 * b[1]);
            Check.due("best(-1): HIGH can be" + when, x.best(-1), 3 * (24 - b[1]));
            Check.due("best(0)" + when, x.best(0), b[1]);
            Check.inForce(x, "earns 24-here;costs here");
            Check.due("richest(): LOW can be" + when, x.richest(), 3 * (24 - b[0]));
            Check.due("best(-1): LOW can be" + when, x.best(-1), 3 * b[0]);
            Check.due("best(2)" + when, x.best(2), b[0]);
            Check.inForce(x, "bars if here>" + b[0]);
            Check.due("ways() of LOW alone" + when, x.ways(), 1);
            Check.inForce(x, "bars if here<" + b[1]);
            Check.due("ways() of HIGH alone" + when, x.ways(), 1);
            Check.due("best(1)" + when, x.best(1), b[1]);
            Check.due("mend(1)" + when, x.mend(1), b[1]);
            Check.due("compass(0)" + when, x.compass(0), 0);
            Check.due("compass(1)" + when, x.compass(1), b[1]);
            Check.due("compare(3)" + when, x.compare(3), 0);
            x.terms(4, b[1] - 1);
            Check.due("ways() to one less" + when, x.ways(), b[1] == 0 ? 1 : 0);
        }
    }

    private static void best() {
        Check.about("promise 21: no such NOTE; the first as a row of PITCHES");
        for (int n : NO_NOTE) {
            Twins.untold("best(" + n + ")", Twins::busy, x -> x.best(n), -1);
        }
        CounterDesk x = Check.desk(0, 9, 0, 9, 0, 9);
        Check.inForce(x, "costs 0;bars if leap=0 and place>0");
        int[] want = {0, 1, 0};
        for (int i = 0; i < 3; i++) {
            Check.due("best(" + i + ")", x.best(i), want[i]);
        }
        // The first NOTE in which they differ counts, even if the later ones are higher for it.
        Check.inForce(x, "costs 0;bars if place>0 and not (leap=20 or leap=0-1);bars if place=0 and here=0");
        int[] then = {1, 0, 20};
        for (int i = 0; i < 3; i++) {
            Check.due("best(" + i + ")", x.best(i), then[i]);
        }
        Check.inForce(x, "costs 5 if here<3;costs 4 if here>2;costs 3 if here=24 and place=2");
        Check.due("best(-1)", x.best(-1), 11);
        Check.due("best(0)", x.best(0), 3);
        Check.due("best(2)", x.best(2), 24);
    }

    private static void bestOfTwelve() {
        Check.about("promise 21 of 12 NOTES");
        CounterDesk x = twelve(24, 0);
        Check.inForce(x, "costs 999");
        Check.due("best(-1)", x.best(-1), 12 * 999);
        Check.due("between(0, 24)", x.between(0, 24), 12 * 999);
        Check.due("compare(0)", x.compare(0), 12 * 999);
        Check.due("cheapest(11, 1)", x.cheapest(11, 1), 12 * 999);
        Check.inForce(x, "bars if not here=2*place;costs here");
        for (int i = 0; i < 12; i++) {
            Check.due("best(" + i + ")", x.best(i), 2 * i);
            Check.due("mend(" + i + ")", x.mend(i), 2 * i);
        }
        Check.due("best(12)", x.best(12), -1);
        Check.due("mend(12)", x.mend(12), -1);
        Check.due("best(-1)", x.best(-1), 132);
        Check.due("between(0, 22)", x.between(0, 22), 132);
        Check.due("between(0, 21)", x.between(0, 21), -1);
        Check.due("mend(-1)", x.mend(-1), 11);
        Check.due("compass(0)", x.compass(0), 22);
    }

    private static void between() {
        Check.about("promise 22: NONE (there is none; no NOTES; others)");
        int[] noPitch = {-1, -2, 25, 26, Integer.MIN_VALUE, Integer.MAX_VALUE};
        for (int p : noPitch) {
            Twins.untold("between(" + p + ", 5)", Twins::busy, x -> x.between(p, 5), -1);
            Twins.untold("between(5, " + p + ")", Twins::busy, x -> x.between(5, p), -1);
            Twins.untold("between(" + p + ", " + p + ")", Twins::busy, x -> x.between(p, p), -1);
        }
        CounterDesk x = Check.desk(0, 5, 0, 5);
        Check.due("between(0, 24)", x.between(0, 24), 24);
        Check.due("between(24, 0)", x.between(24, 0), 24);
        Check.due("between(0, 0)", x.between(0, 0), 0);
        Check.due("between(24, 24)", x.between(24, 24), 0);
        Check.inForce(x, "bars if leap=24;bars if place=0 and here=3;bars if place=1 and here=4");
        Check.due("between(0, 24): BARRED", x.between(0, 24), -1);
        Check.due("between(0, 23)", x.between(0, 23), 23);
        Check.due("between(3, 5): the first is BARRED", x.between(3, 5), -1);
        Check.due("between(4, 5)", x.between(4, 5), 1);
        Check.due("between(5, 4): the last is BARRED", x.between(5, 4), -1);
        Check.due("between(5, 3)", x.between(5, 3), 2);
        CounterDesk y = Check.desk(0, 5, 0, 5, 0, 5);
        Check.inForce(y, "bars if place=1 and here>2 and here<20");
        Check.due("between(5, 6): what is in between is BARRED", y.between(5, 6), 3 + 4);
        y.terms(3, 3);
        Check.due("between(5, 6) from LOW 3", y.between(5, 6), 15 + 14);
        y.terms(4, 19);
        Check.due("between(5, 6) to HIGH 19", y.between(5, 6), -1);
    }

    private static void betweenOfOne() {
        Check.about("promise 22: one NOTE begins and ends");
        CounterDesk x = Check.desk(3, 5);
        Check.inForce(x, "costs 7+here;bars if here=9");
        for (int p = 0; p < 25; p++) {
            Check.due("between(" + p + ", " + p + ")", x.between(p, p), p == 9 ? -1 : 7 + p);
            Check.due("between(" + p + ", another)", x.between(p, (p + 1) % 25), -1);
        }
    }

    private static void richest() {
        Check.about("promise 23: the most, nothing, NONE");
        CounterDesk x = twelve(0, 0);
        Check.due("richest()", x.richest(), 12);
        Check.inForce(x, "earns 99");
        Check.due("richest()", x.richest(), 12 * 99);
        Check.inForce(x, "earns 1000");
        Check.due("richest()", x.richest(), 12 * 99);
        Check.inForce(x, "earns 0");
        Check.due("richest() of nothing", x.richest(), 0);
        Check.inForce(x, "earns 0-1");
        Check.due("richest() of nothing", x.richest(), 0);
        Check.inForce(x, "bars if place=11");
        Check.due("richest() of none", x.richest(), -1);
        Check.inForce(x, "earns here*4;bars if leap>0 or leap<0 and place<11;bars if place=11 and not leap=0-24");
        Check.due("richest()", x.richest(), 11 * 96);
    }

    private static void ways() {
        Check.about("promise 24: none, one, all");
        CounterDesk x = twelve(0, 0);
        long[] want = {1, 4096, 531441};
        for (int wide = 1; wide < 4; wide++) {
            limits(x, 24 - wide + 1, 24);
            Check.due("ways() of " + wide, x.ways(), want[wide - 1]);
            limits(x, 0, wide - 1);
            Check.due("ways() of " + wide, x.ways(), want[wide - 1]);
        }
        limits(x, 0, 24);
        Check.due("ways() of all", x.ways(), 59_604_644_775_390_625L);
        Check.inForce(x, "bars if place=0 and here=24");
        Check.due("ways()", x.ways(), 59_604_644_775_390_625L / 25 * 24);
        Check.inForce(x, "bars if place=11 and here>0 or place=11 and leap<0");
        Check.due("ways()", x.ways(), 2_384_185_791_015_625L / 25);
        Check.inForce(x, "bars if place=11");
        Check.due("ways() of none", x.ways(), 0);
        limits(x, 13, 12);
        x.force(-1);
        Check.due("ways() of none", x.ways(), 0);
    }

    private static void mend() {
        Check.about("promise 25: nothing, all, NONE; the first such");
        for (int n : NO_NOTE) {
            Twins.untold("mend(" + n + ")", Twins::busy, x -> x.mend(n), -1);
        }
        CounterDesk x = twelve(0, 5);
        Check.due("mend(-1) of nothing", x.mend(-1), 0);
        Check.due("mend(11)", x.mend(11), 5);
        limits(x, 5, 5);
        Check.due("mend(-1) of nothing", x.mend(-1), 0);
        limits(x, 6, 24);
        Check.due("mend(-1) of all", x.mend(-1), 12);
        Check.due("mend(0)", x.mend(0), 6);
        limits(x, 0, 4);
        Check.due("mend(-1) of all", x.mend(-1), 12);
        Check.due("mend(11)", x.mend(11), 0);
        limits(x, 0, 24);
        Check.inForce(x, "bars if place=11 and leap=0");
        Check.due("mend(-1) of one", x.mend(-1), 1);
        Check.due("mend(9)", x.mend(9), 5);
        Check.due("mend(10): the first such mends that ahead of the last", x.mend(10), 0);
        Check.due("mend(11)", x.mend(11), 5);
        x.terms(3, 6);
        Check.due("mend(-1)", x.mend(-1), 12);
        x.terms(4, 6);
        Check.due("mend(-1) of none", x.mend(-1), -1);
        Check.due("mend(0) of none", x.mend(0), -1);
    }

    private static void compass() {
        Check.about("promise 26: LOW and HIGH not beyond those there are; the lowest such LOW; NONE");
        int[] others = {-1, 2, 3, Integer.MIN_VALUE, Integer.MAX_VALUE};
        for (int what : others) {
            Twins.untold("compass(" + what + ")", Twins::busy, x -> x.compass(what), -1);
            Twins.untold("compass(" + what + ")", CounterDesk::new, x -> x.compass(what), -1);
        }
        CounterDesk x = Check.desk(0, 9, 0, 9);
        Check.inForce(x, "bars if place=1 and not leap=24");
        Check.due("compass(0): as wide as can be", x.compass(0), 24);
        Check.due("compass(1)", x.compass(1), 0);
        x.terms(3, 1);
        Check.due("compass(0) from LOW 1", x.compass(0), -1);
        Check.due("compass(1) from LOW 1", x.compass(1), -1);
        limits(x, 0, 23);
        Check.due("compass(0) to HIGH 23", x.compass(0), -1);
        limits(x, 0, 24);
        Check.inForce(x, "bars if place=1 and not leap=2;bars if here<21");
        int[][] bounds = {{0, 24, 2, 21}, {21, 24, 2, 21}, {22, 24, 2, 22}, {23, 24, -1, -1}, {0, 23, 2, 21}, {0, 22, -1, -1}, {21, 23, 2, 21}};
        for (int[] b : bounds) {
            limits(x, b[0], b[1]);
            Check.due("compass(0) within " + b[0] + ", " + b[1], x.compass(0), b[2]);
            Check.due("compass(1) within " + b[0] + ", " + b[1], x.compass(1), b[3]);
        }
        limits(x, 0, 24);
        Check.inForce(x, "bars if place=1 and leap<2 and leap>0-2;bars if here=2 or here=4;bars if here>11 and here<24");
        Check.due("compass(0)", x.compass(0), 2);
        Check.due("compass(1): the lowest", x.compass(1), 1);
        x.force(-1);
        limits(x, 24, 24);
        Check.due("compass(0) of LOW as HIGH", x.compass(0), 0);
        Check.due("compass(1) of LOW as HIGH", x.compass(1), 24);
        limits(x, 24, 23);
        Check.due("compass(0) of LOW beyond HIGH", x.compass(0), -1);
    }

    private static void compassWithoutNotes() {
        Check.about("promise 26 without NOTES");
        int[][] bounds = {{0, 24, 0}, {24, 24, 24}, {0, 0, 0}, {7, 7, 7}, {7, 8, 7}, {8, 7, -1}, {24, 0, -1}, {1, 0, -1}};
        CounterDesk x = new CounterDesk();
        Check.inForce(x, "bars");
        for (int[] b : bounds) {
            limits(x, b[0], b[1]);
            Check.due("compass(0) within " + b[0] + ", " + b[1], x.compass(0), b[2] < 0 ? -1 : 0);
            Check.due("compass(1) within " + b[0] + ", " + b[1], x.compass(1), b[2]);
            Check.due("compass(2) within " + b[0] + ", " + b[1], x.compass(2), -1);
        }
    }

    private static void cheapest() {
        Check.about("promise 27: the PITCH 0 .. 24 (another one than there is), the lowest; NONE");
        int[] noNote = {-1, -2, 3, 11, 12, Integer.MIN_VALUE, Integer.MAX_VALUE};
        for (int n : noNote) {
            Twins.untold("cheapest(" + n + ", 0)", Twins::busy, x -> x.cheapest(n, 0), -1);
            Twins.untold("cheapest(" + n + ", 1)", Twins::busy, x -> x.cheapest(n, 1), -1);
        }
        int[] others = {-1, 2, 3, Integer.MIN_VALUE, Integer.MAX_VALUE};
        for (int what : others) {
            Twins.untold("cheapest(0, " + what + ")", Twins::busy, x -> x.cheapest(0, what), -1);
        }
        Twins.untold("cheapest(12, 0)", Twins::full, x -> x.cheapest(12, 0), -1);
        CounterDesk x = Check.desk(0, 5, 1, 5, 24, 5);
        Check.due("cheapest(0, 0): not 0 again", x.cheapest(0, 0), 1);
        Check.due("cheapest(1, 0)", x.cheapest(1, 0), 0);
        Check.due("cheapest(2, 0)", x.cheapest(2, 0), 0);
        Check.inForce(x, "costs 24-under if last=1");
        Check.due("best(-1)", x.best(-1), 0);
        Check.due("cheapest(2, 0): not 24 again", x.cheapest(2, 0), 23);
        Check.due("cheapest(2, 1)", x.cheapest(2, 1), 1);
        x.shift(2, 23);
        Check.due("cheapest(2, 0)", x.cheapest(2, 0), 24);
        Check.due("cheapest(2, 1)", x.cheapest(2, 1), 0);
        Check.inForce(x, "bars if place=1 and not under=1");
        Check.due("best(-1): there is one as it is", x.best(-1), 0);
        Check.due("cheapest(1, 0): by no other", x.cheapest(1, 0), -1);
        Check.due("cheapest(1, 1): by no other", x.cheapest(1, 1), -1);
        Check.due("cheapest(0, 0): by another", x.cheapest(0, 0), 1);
        Check.inForce(x, "bars if place=1 and not under=24");
        Check.due("best(-1): there is none as it is", x.best(-1), -1);
        Check.due("cheapest(1, 0)", x.cheapest(1, 0), 24);
        Check.due("cheapest(1, 1)", x.cheapest(1, 1), 0);
        Check.due("cheapest(0, 0)", x.cheapest(0, 0), -1);
        x.shift(1, 24);
        x.shift(0, 1);
        Check.due("cheapest(0, 0): the lowest of all", x.cheapest(0, 0), 0);
        limits(x, 24, 24);
        Check.due("cheapest(0, 0) of LOW as HIGH", x.cheapest(0, 0), 0);
        limits(x, 24, 23);
        Check.due("cheapest(0, 0) of LOW beyond HIGH", x.cheapest(0, 0), -1);
    }

    private static void canonHeights() {
        Check.about("CANON d: heights h -24 .. 24, all PITCHES 0 .. 24");
        int[][] unders = {{0, 0}, {24, 24}, {0, 24}, {7, 7}, {3, 20}, {0, 23}, {1, 24}};
        for (int[] u : unders) {
            CounterDesk x = Check.desk(u[0], 0, u[1], 0, 9, 0);
            int first = -u[0];
            int most = 25 - (u[1] - u[0]);
            Check.due("canon(1, NONE) of " + u[0] + ", " + u[1], x.canon(1, -1), most);
            for (int i = 0; i < most; i++) {
                Check.due("canon(1, " + i + ")", x.canon(1, i), first + i);
            }
            Check.due("canon(1, " + most + "): not so many", x.canon(1, most), -1000);
            Check.due("canon(2, NONE)", x.canon(2, -1), 25);
            Check.due("canon(2, 0)", x.canon(2, 0), -u[0]);
            Check.due("canon(2, 24)", x.canon(2, 24), 24 - u[0]);
            Check.due("canon(2, 25)", x.canon(2, 25), -1000);
        }
        CounterDesk x = Check.desk(5, 5, 5, 5);
        limits(x, 24, 0);
        Check.due("canon(1, NONE): LOW, HIGH aside", x.canon(1, -1), 25);
        Check.due("canon(1, 0)", x.canon(1, 0), -5);
    }

    private static void canonOthers() {
        Check.about("promise 28: d 1 .. 11; -1000 (d is not below how many NOTES there are; not so many; others)");
        for (int had = 0; had <= 12; had++) {
            CounterDesk x = new CounterDesk();
            for (int i = 0; i < had; i++) {
                x.note(10, 10);
            }
            int[] all = {-1, 0, 1, 2, 3, 4, 5, 6, 7, 8, 9, 10, 11, 12, 13, Integer.MIN_VALUE, Integer.MAX_VALUE};
            for (int d : all) {
                boolean can = d >= 1 && d < had;
                Check.due("canon(" + d + ", NONE) of " + had, x.canon(d, -1), can ? 25 : -1000);
                Check.due("canon(" + d + ", 0) of " + had, x.canon(d, 0), can ? -10 : -1000);
                Check.due("canon(" + d + ", 24) of " + had, x.canon(d, 24), can ? 14 : -1000);
                Check.due("canon(" + d + ", 25) of " + had, x.canon(d, 25), -1000);
                Check.due("canon(" + d + ", -2) of " + had, x.canon(d, -2), -1000);
            }
        }
        int[] others = {-2, -3, 25, 26, 49, Integer.MIN_VALUE, Integer.MAX_VALUE};
        for (int i : others) {
            Twins.untold("canon(1, " + i + ")", Twins::busy, x -> x.canon(1, i), -1000);
        }
        Twins.untold("canon(3, NONE)", Twins::busy, x -> x.canon(3, -1), -1000);
        Twins.untold("canon(0, NONE)", Twins::busy, x -> x.canon(0, -1), -1000);
    }

    private static void canonBarred() {
        Check.about("CANON d: none of these NOTES BARRED (NOTE d has none ahead; UNDER, place, last of each as they are)");
        // By d 1 and h: NOTE 1 is HERE at 4 and h, NOTE 2 at 9 and h, NOTE 3 at 2 and h.
        String[] laws = {"bars", "bars if place=0", "bars if place=1", "bars if last=1", "bars if here=24",
            "bars if place=1 and ahead+leap+moves>0", "bars if place=1 and ahead+leap+moves<0",
            "bars if place=2 and not (leap=5 and moves=0-7)", "bars if place=3 and not (leap=0-7 and moves=9)",
            "bars if place=2 and not ahead=0-3", "bars if place=1 and not under=9 or place=3 and not under=11",
            "bars if apart=0", "bars if place=1 and 1/leap=0", "bars if here<0 or here>24"};
        // Heights go from -2 to 15, which are 18.
        int[] many = {0, 18, 0, 0, 17, 18, 18, 18, 18, 1, 18, 16, 18, 18};
        int[] first = {-1000, -2, -1000, -1000, -2, -2, -2, -2, -2, 2, -2, -2, -2, -2};
        CounterDesk x = Check.desk(4, 0, 9, 0, 2, 0, 11, 0);
        for (int k = 0; k < laws.length; k++) {
            x.image(0);
            Check.inForce(x, laws[k]);
            Check.due("canon(1, NONE) by " + laws[k], x.canon(1, -1), many[k]);
            Check.due("canon(1, 0) by " + laws[k], x.canon(1, 0), first[k]);
            Check.due("canon(1, many) by " + laws[k], x.canon(1, many[k]), -1000);
            x.back(0);
        }
        Check.inForce(x, "bars if place<3");
        Check.due("canon(3, NONE): one NOTE alone", x.canon(3, -1), 25);
        Check.due("canon(3, 0)", x.canon(3, 0), -4);
        Check.due("canon(2, NONE)", x.canon(2, -1), 0);
    }

    private static void parallels() {
        Check.about("PARALLELS a 0 .. 11: APART, without its sign modulo 12; a LEAP that is not 0; NOTES but the first");
        int[] others = {-1, 12, 13, 24, Integer.MIN_VALUE, Integer.MAX_VALUE};
        for (int a : others) {
            Twins.untold("parallels(" + a + ")", Twins::busy, x -> x.parallels(a), -1);
        }
        for (int apart = 0; apart <= 23; apart++) {
            // The LEAP of NOTE 1 is 1 less apart, that of NOTE 2 is apart, that of NOTE 3 is 0.
            CounterDesk x = Check.desk(0, apart, apart + 1, 1, 1, apart + 1, 1, apart + 1);
            for (int a = 0; a < 12; a++) {
                int want = a != apart % 12 ? 0 : apart == 0 ? 2 : apart == 1 ? 4 : 6;
                Check.due("parallels(" + a + ") of " + apart, x.parallels(a), want);
            }
        }
        CounterDesk wide = Check.desk(0, 24, 24, 0, 0, 12, 12, 0, 5, 5, 6, 6);
        Check.due("parallels(0) of 24, 12, 0", wide.parallels(0), 62);
        CounterDesk pairs = Check.desk(0, 7, 0, 8, 0, 19, 0, 7, 0, 7);
        Check.due("parallels(7): as the one ahead", pairs.parallels(7), 8);
        Check.due("parallels(8)", pairs.parallels(8), 0);
        Check.due("parallels(7) of one", Check.desk(0, 7).parallels(7), 0);
        Check.due("parallels(7) of none", new CounterDesk().parallels(7), 0);
        CounterDesk all = new CounterDesk();
        for (int i = 0; i < 12; i++) {
            all.note(i, i + 11);
        }
        Check.due("parallels(11) of twelve", all.parallels(11), 4094);
        Check.due("parallels(10) of twelve", all.parallels(10), 0);
    }

    private static void compare() {
        Check.about("promise 35: NONE: none; NONE (no such LAW; there is no VOICE)");
        int[] noLaw = {-2, -3, 2, 3, 5, 6, Integer.MIN_VALUE, Integer.MAX_VALUE};
        for (int law : noLaw) {
            Twins.untold("compare(" + law + ")", Twins::busy, x -> x.compare(law), -1);
        }
        CounterDesk x = Twins.full();
        for (int law = 0; law < 6; law++) {
            Check.due("compare(" + law + ")", x.compare(law), 12 * law);
        }
        Check.due("compare(6)", x.compare(6), -1);
        Check.due("compare(NONE): no LAW", x.compare(-1), 0);
        Check.due("count(11)", x.count(11), 5);
        Check.due("compare(0) without LAWS", Check.desk(1, 1).compare(0), -1);
        CounterDesk y = Check.desk(1, 1);
        Check.law(y, "bars if here<24");
        Check.law(y, "costs 9");
        Check.due("compare(0)", y.compare(0), 0);
        y.terms(4, 23);
        Check.due("compare(0): no VOICE", y.compare(0), -1);
        Check.due("compare(1)", y.compare(1), 9);
        y.force(0);
        Check.due("compare(1): in place of that in FORCE", y.compare(1), 9);
        Check.due("compare(NONE)", y.compare(-1), 0);
        limits(y, 5, 4);
        Check.due("compare(NONE): no VOICE", y.compare(-1), -1);
        Check.due("compare(1): no VOICE", y.compare(1), -1);
        Check.due("compare(2): no such LAW", y.compare(2), -1);
    }

    /** UNDER of two NOTES, whether there is a third one, DAY, MOOD: each row is asked behind each other one. */
    private static void askedAgain() {
        Check.about("what is asked again, behind the least and the most changes");
        int[][] rows = {{0, 0, 0, 0, 0}, {0, 1, 0, 0, 0}, {1, 0, 0, 0, 0}, {0, 24, 0, 0, 0}, {1, 0, 1, 0, 0}, {0, 0, 1, 0, 0},
            {0, 0, 0, 1, 0}, {0, 0, 0, 998, 0}, {0, 0, 0, 999, 0}, {1, 0, 0, 999, 9}, {0, 0, 0, 0, 8}, {0, 0, 0, 0, 9}, {0, 0, 0, 1, 9},
            {24, 24, 0, 999, 9}, {24, 24, 1, 999, 9}, {2, 0, 1, 998, 1}};
        for (int[] row : rows) {
            CounterDesk x = prepared();
            for (int[] other : rows) {
                asked(x, row);
                asked(x, other);
            }
        }
    }

    private static CounterDesk prepared() {
        CounterDesk x = Check.desk(0, 0, 0, 0);
        Check.inForce(x, "costs place*100+last*50+under*3+moves%7+day%89+mood*11;bars if not here=9");
        x.image(0);
        return x;
    }

    private static void asked(CounterDesk x, int[] row) {
        x.back(0);
        x.shift(0, row[0]);
        x.shift(1, row[1]);
        if (row[2] == 1) {
            x.note(0, 0);
        }
        x.terms(0, row[3]);
        x.terms(2, row[4]);
        int notes = 2 + row[2];
        int want = notes * (row[3] % 89 + row[4] * 11) + (row[0] + row[1]) * 3 + 50 + 100;
        want += (row[1] - row[0]) % 7 + row[2] * (200 + -row[1] % 7);
        Check.due("best(-1) of " + java.util.Arrays.toString(row), x.best(-1), want);
    }
}
