/** Promises 7 to 10: the TAPE and ROWS. */
final class TapeTest {
    private TapeTest() {
    }

    static void run() {
        feed();
        end();
        row();
        blots();
    }

    private static void feed() {
        Check.about("promise 7");
        CounterDesk x = new CounterDesk();
        for (int i = 1; i <= 20; i++) {
            Check.due("feed " + i, x.feed(0, 0, 0, 0, 0), 20 * i);
        }
        Check.due("feed beyond 400", x.feed(0, 0, 0, 0, 0), -1);
        Check.due("count(5)", x.count(5), 400);
        Check.due("status(): feed() is not REFUSED", x.status(), 0);
        x.end(381);
        Check.due("feed to 401", x.feed(0, 0, 0, 0, 0), -1);
        x.end(380);
        Check.due("feed to 400", x.feed(0, 0, 0, 0, 0), 400);
        x.end(0);
        // The highest byte comes first, and a byte may be any of 0 .. 255.
        x.feed(0x01020304, 0x05060708, 0x090A0B0C, 0x0D0E0F10, 0x11121314);
        Check.due("row() of twenty bytes", x.row(), 10);
        for (int i = 0; i < 10; i++) {
            Check.due("of(" + i + ", 0)", x.of(i, 0), 2 * i + 1);
            Check.due("of(" + i + ", 1)", x.of(i, 1), 2 * i + 2);
        }
        x.feed(0xFF008080, -1, -1, -1, -1);
        Check.due("row() of bytes that can't be", x.row(), 0);
        Check.due("blots()", x.blots(), 10);
    }

    private static void end() {
        Check.about("promise 8");
        CounterDesk x = new CounterDesk();
        Check.due("end(0) of nothing", x.end(0), 0);
        Check.due("end(1) of nothing", x.end(1), -1);
        x.feed(0x05060708, 0, 0, 0, 0);
        Check.due("end(21)", x.end(21), -1);
        Check.due("end(-1)", x.end(-1), -1);
        Check.due("end(min)", x.end(Integer.MIN_VALUE), -1);
        Check.due("count(5)", x.count(5), 20);
        Check.due("end(20)", x.end(20), 20);
        Check.due("end(2)", x.end(2), 2);
        Check.due("end(3)", x.end(3), -1);
        Check.due("count(5)", x.count(5), 2);
        x.feed(0x01020304, 0, 0, 0, 0);
        x.end(4);
        Check.due("row() of the first two and the next two", x.row(), 2);
        Check.due("of(0, 0)", x.of(0, 0), 5);
        Check.due("of(1, 1)", x.of(1, 1), 2);
    }

    private static void row() {
        Check.about("promise 9");
        CounterDesk x = new CounterDesk();
        Check.due("row() of an empty TAPE", x.row(), -6);
        Check.due("status()", x.status(), -6);
        x.note(9, 9);
        Check.tape(x, Check.bytes(0, 24, 24, 0, 25, 0, 0, 25, 255, 255, 3, 4, 5));
        Check.due("row()", x.row(), 3);
        Check.due("status()", x.status(), 0);
        Check.due("count(5)", x.count(5), 0);
        Check.due("count(0)", x.count(0), 4);
        Check.due("of(1, 1)", x.of(1, 1), 24);
        Check.due("of(3, 0)", x.of(3, 0), 3);
        byte[] many = new byte[40];
        Check.tape(x, many);
        Check.due("row() of twenty NOTES", x.row(), 8);
        Check.due("blots()", x.blots(), 12);
        Check.tape(x, many);
        Check.due("row() without room", x.row(), 0);
        Check.due("blots()", x.blots(), 20);
    }

    private static void blots() {
        Check.about("promise 10");
        CounterDesk x = new CounterDesk();
        Check.due("blots() ahead of any", x.blots(), 0);
        Check.tape(x, Check.bytes(1, 1, 30, 1, 7));
        x.row();
        Check.due("blots()", x.blots(), 2);
        x.row();
        Check.due("blots() behind a row() that was REFUSED", x.blots(), 2);
        x.image(0);
        Check.tape(x, Check.bytes(1, 2));
        x.row();
        Check.due("blots() of a clean row", x.blots(), 0);
        Check.tape(x, Check.bytes(1));
        x.row();
        x.back(0);
        Check.due("blots() behind back()", x.blots(), 1);
    }
}
