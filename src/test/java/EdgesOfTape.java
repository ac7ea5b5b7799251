import java.util.Arrays;
import java.util.Set;

/** The bounds of the TAPE and of ROWS: part II's first sentence, "A ROW" of part IV, promises 7 to 10. */
final class EdgesOfTape {
    private EdgesOfTape() {
    }

    static void run() {
        feed();
        feedWithoutRoom();
        bytesOfFeed();
        end();
        endOfNothing();
        rowOfNothing();
        rowByTwos();
        rowPitches();
        rowWithoutRoom();
        blots();
    }

    private static CounterDesk ofLength(int n) {
        CounterDesk x = Twins.busy();
        Check.tape(x, new byte[n]);
        return x;
    }

    private static void feed() {
        Check.about("a TAPE of at most 400 bytes");
        CounterDesk x = new CounterDesk();
        Check.due("count(5)", x.count(5), 0);
        for (int i = 1; i <= 20; i++) {
            Check.due("feed " + i, x.feed(1, 1, 1, 1, 1), 20 * i);
            Check.due("count(5)", x.count(5), 20 * i);
        }
        Check.due("feed to 420", x.feed(1, 1, 1, 1, 1), -1);
        Check.due("count(5)", x.count(5), 400);
        int[] lengths = {1, 19, 360, 379, 380};
        for (int n : lengths) {
            CounterDesk y = ofLength(n);
            Check.due("feed behind " + n, y.feed(0, 0, 0, 0, 0), n + 20);
        }
    }

    private static void feedWithoutRoom() {
        Check.about("promise 7: NONE, if there would be more than 400");
        int[] lengths = {381, 382, 399, 400};
        for (int n : lengths) {
            Twins.untold("feed behind " + n, () -> ofLength(n), x -> x.feed(0x01020304, 5, 6, 7, 8), -1);
        }
        Twins.untold("feed behind 400", Twins::full, x -> x.feed(-1, -1, -1, -1, -1), -1);
        // A TEXT that just fits is as it was behind a feed() that did not.
        CounterDesk x = Check.desk(0, 0);
        Check.tape(x, "costs 7" + Check.times(" ", 374));
        Check.due("feed behind 381", x.feed(0x62617273, 0, 0, 0, 0), -1);
        Check.due("law()", x.law(), 0);
    }

    private static void bytesOfFeed() {
        Check.about("promise 7: four of each number, the highest first");
        CounterDesk x = new CounterDesk();
        x.feed(0x00010203, 0x04050607, 0x08090a0b, 0x0c0d0e0f, 0x10111213);
        Check.due("row()", x.row(), 10);
        for (int i = 0; i < 10; i++) {
            Check.due("of(" + i + ", 0)", x.of(i, 0), 2 * i);
            Check.due("of(" + i + ", 1)", x.of(i, 1), 2 * i + 1);
        }
        CounterDesk high = new CounterDesk();
        high.feed(0x18001800, 0x80000000, 0xff00ff00, 0x00ff00ff, 0x7fffffff);
        Check.due("row(): bytes from 128 on are no PITCHES", high.row(), 3);
        Check.due("blots()", high.blots(), 7);
        Check.due("of(1, 0)", high.of(1, 0), 24);
        Check.due("of(2, 0)", high.of(2, 0), 0);
        CounterDesk none = new CounterDesk();
        none.feed(-1, -1, -1, -1, -1);
        Check.due("row() of bytes 255", none.row(), 0);
        Check.due("blots()", none.blots(), 10);
        none.feed(Integer.MIN_VALUE, Integer.MIN_VALUE, Integer.MIN_VALUE, Integer.MIN_VALUE, Integer.MIN_VALUE);
        Check.due("row() of 128 and 0", none.row(), 5);
        Check.due("blots()", none.blots(), 5);
    }

    private static void end() {
        Check.about("promise 8: NONE, if it has not so many, or n is below 0");
        int[] lengths = {1, 2, 39, 400};
        for (int n : lengths) {
            int[] others = {-1, -2, n + 1, n + 2, 401, Integer.MIN_VALUE, Integer.MAX_VALUE};
            for (int o : others) {
                Twins.untold("end(" + o + ") of " + n, () -> ofLength(n), x -> x.end(o), -1);
            }
            Twins.untold("end(" + n + ") of " + n, () -> ofLength(n), x -> x.end(n), n);
            CounterDesk x = ofLength(n);
            Check.due("end of one less", x.end(n - 1), n - 1);
            Check.due("count(5)", x.count(5), n - 1);
            Check.due("what is cut is gone", x.end(n), -1);
            Check.due("end(0)", x.end(0), 0);
            Check.due("count(5)", x.count(5), 0);
        }
        CounterDesk x = new CounterDesk();
        Check.tape(x, Check.bytes(1, 2, 3, 4, 5, 6));
        Check.due("end(4)", x.end(4), 4);
        Check.due("row(): its first bytes", x.row(), 2);
        Check.due("of(1, 1)", x.of(1, 1), 4);
    }

    private static void endOfNothing() {
        Check.about("promise 8, an empty TAPE");
        CounterDesk x = new CounterDesk();
        Check.due("end(0)", x.end(0), 0);
        Check.due("end(1)", x.end(1), -1);
        Check.due("end(-1)", x.end(-1), -1);
        Check.due("status()", x.status(), 0);
        Check.due("count(6)", x.count(6), 0);
    }

    private static void rowOfNothing() {
        Check.about("promise 9: -6 the TAPE is empty");
        Twins.refused("row()", CounterDesk::new, CounterDesk::row, -6);
        Twins.refused("row()", Twins::fullWithoutTape, CounterDesk::row, -6);
        Twins.refused("row()", () -> {
            CounterDesk x = Twins.busy();
            x.end(0);
            return x;
        }, CounterDesk::row, -6);
    }

    private static void rowByTwos() {
        Check.about("A ROW: by twos, one within which the TAPE ends is a BLOT");
        for (int n = 1; n <= 25; n++) {
            CounterDesk x = new CounterDesk();
            byte[] bytes = new byte[n];
            for (int i = 0; i < n; i++) {
                bytes[i] = (byte) i;
            }
            bytes[n - 1] = 24;
            Check.tape(x, bytes);
            Check.due("row() of " + n, x.row(), n / 2);
            Check.due("status()", x.status(), 0);
            Check.due("blots() of " + n, x.blots(), n % 2);
            Check.due("count(0)", x.count(0), n / 2);
            Check.due("count(5)", x.count(5), 0);
            Check.due("the last one", x.of(n / 2 - 1, 1), n == 1 ? -1 : n % 2 == 0 ? 24 : n - 2);
        }
    }

    private static void rowPitches() {
        Check.about("A ROW: one that can't be is a BLOT: nothing");
        int[] can = {0, 1, 23, 24};
        for (int p : can) {
            CounterDesk x = new CounterDesk();
            Check.tape(x, Check.bytes(p, 5, 6, p));
            Check.due("row() with " + p, x.row(), 2);
            Check.due("blots()", x.blots(), 0);
            Check.due("of(0, 0)", x.of(0, 0), p);
            Check.due("of(1, 1)", x.of(1, 1), p);
        }
        int[] cannot = {25, 26, 32, 127, 128, 152, 255};
        for (int p : cannot) {
            CounterDesk x = new CounterDesk();
            Check.tape(x, Check.bytes(1, 2, p, 5, 6, p, p, p, 7, 8));
            Check.due("row() with " + p, x.row(), 2);
            Check.due("blots()", x.blots(), 3);
            Check.due("count(0)", x.count(0), 2);
            Check.due("of(1, 0): what stands behind a BLOT comes", x.of(1, 0), 7);
            Check.due("of(1, 1)", x.of(1, 1), 8);
        }
        // Nothing but BLOTS is no refusal, but what was ahead of it can't be undone.
        CounterDesk x = Check.desk(1, 2);
        x.set(0, 3);
        CounterDesk y = Check.desk(1, 2);
        y.set(0, 3);
        y.terms(0, 0);
        Check.tape(x, Check.bytes(25, 0, 7));
        Check.due("row() of BLOTS alone", x.row(), 0);
        Check.due("status()", x.status(), 0);
        Twins.alike("row() of BLOTS alone", x, y, Set.of("blots()", "blots() behind row()"));
    }

    private static void rowWithoutRoom() {
        Check.about("A ROW: one for which there is no room is a BLOT");
        for (int had = 9; had <= 12; had++) {
            CounterDesk x = new CounterDesk();
            for (int i = 0; i < had; i++) {
                x.note(i, i);
            }
            Check.tape(x, Check.bytes(20, 21, 22, 23, 99, 0, 24, 0));
            Check.due("row() behind " + had, x.row(), Math.min(3, 12 - had));
            Check.due("blots()", x.blots(), 4 - Math.min(3, 12 - had));
            Check.due("count(0)", x.count(0), Math.min(12, had + 3));
            Check.due("of(11, 0)", x.of(11, 0), new int[] {24, 22, 20, 11}[had - 9]);
            Check.due("of(12, 0)", x.of(12, 0), -1);
            Check.due("status()", x.status(), 0);
        }
        byte[] many = new byte[400];
        Arrays.fill(many, (byte) 24);
        CounterDesk x = new CounterDesk();
        Check.tape(x, many);
        Check.due("row() of 400", x.row(), 12);
        Check.due("blots()", x.blots(), 188);
        Check.tape(x, many);
        Check.due("row() of 400 without room", x.row(), 0);
        Check.due("blots()", x.blots(), 200);
        Check.due("status()", x.status(), 0);
        many[398] = 25;
        CounterDesk y = new CounterDesk();
        Check.tape(y, Arrays.copyOf(many, 399));
        Check.due("row() of 399", y.row(), 12);
        Check.due("blots()", y.blots(), 188);
    }

    private static void blots() {
        Check.about("promise 10: the latest row() that was not REFUSED, 0 ahead of any");
        CounterDesk x = new CounterDesk();
        Check.due("blots()", x.blots(), 0);
        x.row();
        Check.due("blots() behind one that was REFUSED", x.blots(), 0);
        Check.tape(x, Check.bytes(25, 25, 1));
        x.row();
        Check.due("blots()", x.blots(), 2);
        x.row();
        Check.due("blots() behind one that was REFUSED", x.blots(), 2);
        x.note(25, 25);
        x.note(1, 1);
        Check.law(x, "?");
        Check.due("blots() behind other calls", x.blots(), 2);
        Check.tape(x, Check.bytes(1, 1));
        x.row();
        Check.due("blots() of none", x.blots(), 0);
    }
}
