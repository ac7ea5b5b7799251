import java.lang.management.ManagementFactory;

/** What 512 calls of the dearest kinds make in memory; nothing is ever given back in the room of a run. */
final class RoomTest {
    private static final int CALLS = 512;

    private RoomTest() {
    }

    static void run() {
        Check.about("room");
        String law = "costs " + Check.times("leap*", 15) + "1 if ahead=1 or " + Check.times("ahead+", 20)
            + "1>3;bars if leap>20;earns here";
        bytesOf("a new object", 400_000, () -> Check.desk(1, 1));
        bytesOf("questions", 450_000, () -> {
            CounterDesk x = full(law);
            for (int i = 0; i < CALLS / 6 - 10; i++) {
                x.cheapest(i % 12, 1);
                x.best(3);
                x.mend(3);
                x.compass(0);
                x.canon(1, i);
                x.listen(0);
            }
        });
        bytesOf("orders", 450_000, () -> {
            CounterDesk x = full(law);
            for (int i = 0; i < CALLS / 9; i++) {
                Check.tape(x, "swap times 20;swap times 20 if all>0 and barred>0;pass times 2 if done>1");
                x.orders();
            }
        });
        bytesOf("laws", 3_000_000, () -> {
            CounterDesk x = full(law);
            x.image(0);
            for (int i = 0; i < CALLS / 20; i++) {
                Check.law(x, law);
                x.back(0);
            }
        });
    }

    private static CounterDesk full(String law) {
        CounterDesk x = new CounterDesk();
        for (int i = 0; i < 12; i++) {
            x.note(2 * i, 24 - i);
        }
        Check.inForce(x, law);
        return x;
    }

    private static void bytesOf(String what, long most, Runnable calls) {
        var threads = (com.sun.management.ThreadMXBean) ManagementFactory.getThreadMXBean();
        calls.run();
        long before = threads.getCurrentThreadAllocatedBytes();
        calls.run();
        long made = threads.getCurrentThreadAllocatedBytes() - before;
        Check.due(what + " made " + made + " bytes, at most " + most, made <= most ? 1 : 0, 1);
    }
}
