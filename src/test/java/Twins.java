import java.util.ArrayList;
import java.util.List;
import java.util.Set;
import java.util.function.Supplier;

/** Two desks made alike, one of which gets a call more: what is refused must leave all else as it is with the other. */
final class Twins {
    /** What a call can be REFUSED by, in the order of count(6) .. count(10). */
    private static final int[] REASONS = {-1, -2, -3, -5, -6};

    interface Call {
        long of(CounterDesk x);
    }

    private Twins() {
    }

    /** The call is REFUSED, is counted so, and leaves everything as it was. */
    static void refused(String call, Supplier<CounterDesk> make, Call one, int why) {
        refused(call, make, one, why, Set.of());
    }

    /** As above, but for what is named. */
    static void refused(String call, Supplier<CounterDesk> make, Call one, int why, Set<String> but) {
        CounterDesk x = make.get();
        CounterDesk y = make.get();
        Check.due(call, one.of(x), why);
        Check.due(call + ", status()", x.status(), why);
        counted(call, x, y, why);
        alike(call, x, y, but);
    }

    /** A TEXT that is REFUSED: the TAPE is empty then, all but FAULT and where ORDERS stopped is as it was. */
    static void refusedText(String text, boolean isLaw, Supplier<CounterDesk> make, int why) {
        refused((isLaw ? "law " : "orders ") + text, () -> {
            CounterDesk x = make.get();
            x.end(0);
            return x;
        }, x -> isLaw ? Check.law(x, text) : Check.orders(x, text), why, Set.of("fault()", "stopped()"));
    }

    /** The call tells that there is nothing to tell: that is no refusal, and leaves everything, status(), too. */
    static void untold(String call, Supplier<CounterDesk> make, Call one, long told) {
        CounterDesk x = make.get();
        CounterDesk y = make.get();
        Check.due(call, one.of(x), told);
        Check.due(call + " leaves status()", x.status(), y.status());
        counted(call, x, y, 0);
        alike(call, x, y, Set.of());
    }

    private static void counted(String call, CounterDesk x, CounterDesk y, int why) {
        for (int i = 0; i < REASONS.length; i++) {
            Check.due(call + ", count(" + (6 + i) + ")", x.count(6 + i), y.count(6 + i) + (REASONS[i] == why ? 1 : 0));
        }
    }

    /** Whether nothing that can be asked tells one from the other; both are used up then. */
    static void alike(String about, CounterDesk x, CounterDesk y, Set<String> but) {
        List<String> names = new ArrayList<>();
        List<Long> got = seen(x, names);
        List<String> wantNames = new ArrayList<>();
        List<Long> want = seen(y, wantNames);
        Check.due(about + ": how much is seen", names.size(), wantNames.size());
        for (int i = 0; i < Math.min(names.size(), wantNames.size()); i++) {
            if (!but.contains(names.get(i))) {
                Check.due(about + " leaves " + names.get(i), got.get(i), want.get(i));
            }
        }
    }

    private static List<Long> seen(CounterDesk x, List<String> names) {
        List<Long> told = new ArrayList<>();
        board(x, "", names, told);
        put("fault()", x.fault(), names, told);
        put("stopped()", x.stopped(), names, told);
        put("blots()", x.blots(), names, told);
        put("count(4)", x.count(4), names, told);
        put("count(5)", x.count(5), names, told);
        for (int n = 0; n < 12; n++) {
            put("drawn(" + n + ", 0)", x.drawn(n, 0), names, told);
            put("drawn(" + n + ", 1)", x.drawn(n, 1), names, told);
        }
        for (int n = 0; n < 17; n++) {
            put("undo() " + n, x.undo(), names, told);
            put("count(12) behind undo() " + n, x.count(12), names, told);
            put("of(0, 0) behind undo() " + n, x.of(0, 0), names, told);
            put("of(0, 1) behind undo() " + n, x.of(0, 1), names, told);
            put("of(1, 0) behind undo() " + n, x.of(1, 0), names, told);
            put("of(1, 1) behind undo() " + n, x.of(1, 1), names, told);
        }
        put("row()", x.row(), names, told);
        put("blots() behind row()", x.blots(), names, told);
        put("the last UNDER behind row()", x.of(x.count(0) - 1, 0), names, told);
        put("the last HERE behind row()", x.of(x.count(0) - 1, 1), names, told);
        for (int k = 0; k < 2; k++) {
            put("back(" + k + ")", x.back(k), names, told);
            board(x, " behind back(" + k + ")", names, told);
        }
        return told;
    }

    /** What IMAGES keep, too. */
    private static void board(CounterDesk x, String when, List<String> names, List<Long> told) {
        for (int what : new int[] {0, 1, 2, 3, 11, 12, 13, 14, 15, 16}) {
            put("count(" + what + ")" + when, x.count(what), names, told);
        }
        for (int n = 0; n < x.count(0); n++) {
            put("of(" + n + ", 0)" + when, x.of(n, 0), names, told);
            put("of(" + n + ", 1)" + when, x.of(n, 1), names, told);
        }
        for (int what = 0; what < 3; what++) {
            put("all(" + what + ")" + when, x.all(what), names, told);
        }
        for (int law = -1; law < x.count(3); law++) {
            put("compare(" + law + ")" + when, x.compare(law), names, told);
        }
        put("canBe()" + when, x.canBe(), names, told);
    }

    private static void put(String name, long value, List<String> names, List<Long> told) {
        names.add(name);
        told.add(value);
    }

    /** A desk on which everything that is held is something else than at first, and nothing is full. */
    static CounterDesk busy() {
        CounterDesk x = Check.desk(3, 7, 5, 9);
        x.terms(1, 4);
        x.terms(2, 6);
        x.terms(3, 2);
        x.terms(4, 21);
        Check.law(x, "costs here if place<2;earns 4;bars if here>20");
        x.heard(2, 7);
        x.image(0);
        Check.law(x, "costs 50-here;bars if leap=5 or place=2 and here=11");
        x.force(1);
        x.heard(0, 4);
        x.weeks(31, 4);
        Check.tape(x, Check.bytes(6, 20, 30, 30));
        x.row();
        x.set(0, 15);
        x.shift(1, 8);
        x.swap();
        x.pass();
        Check.orders(x, "pass; set 0 to 25");
        Check.law(x, "bars 1");
        Check.tape(x, Check.bytes(11, 12, 99));
        return x;
    }

    /** A desk that has no room for anything any more. */
    static CounterDesk full() {
        CounterDesk x = new CounterDesk();
        for (int i = 0; i < 12; i++) {
            x.note(i, 24 - i);
        }
        for (int i = 0; i < 6; i++) {
            Check.law(x, "costs " + i);
            x.heard(2, i);
        }
        x.force(5);
        for (int i = 0; i < 17; i++) {
            x.set(0, i);
        }
        for (int i = 0; i < 20; i++) {
            x.feed(0x01020304, 0, 0, 0, 0);
        }
        return x;
    }

    /** As full(), with the TAPE empty. */
    static CounterDesk fullWithoutTape() {
        CounterDesk x = full();
        x.end(0);
        return x;
    }
}
