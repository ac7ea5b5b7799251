import java.util.ArrayList;
import java.util.List;
import java.util.Random;
import java.util.function.IntSupplier;

/**
 * Questions about VOICES of up to 12 NOTES over the whole compass, too many to go through one by one: told once
 * more from the first NOTE on (the class goes from the last one back), by what PlainDesk tells of each step.
 */
final class WideRuns {
    private static final int COSTS = 0;
    private static final int EARNS = 1;
    private static final int BARRED = 2;
    private static final int MENDED = 3;
    private static final String[] LAWS = {
        "costs 3", "bars if leap>A or leap<0-B or leap=0 and place>0;costs leap*leap+here%3",
        "bars if not apart*apart%B<4;costs leap*leap",
        "bars if apart=ahead and not leap=0;earns here%B+A;costs 5 if here<A", "bars if here=A;bars if leap=0 and place>0",
        "costs here*A%B;earns 3 if here/B=0;bars if last=1 and not here=A",
        "bars if moves*leap>0;bars if place=0 and here<A;earns leap*leap if ahead>B",
        "bars if here*here>A*B+200 or day+mood>9 and here=B;costs under+A-here;earns place*here/[B+1]",
        "bars if not here=2*place+A%2;earns B", "bars if place>A and here>B;costs 1000*here if leap>A",
        "earns apart;bars if apart<0 and ahead<0 and place>B%3", "bars if last=1 and here=A or place=0 and not here=B;costs 0"};

    private final Random random;
    private final CounterDesk x = new CounterDesk();
    private final PlainDesk y = new PlainDesk();
    /** By NOTE, PITCH of the NOTE ahead, PITCH: what PlainDesk tells. */
    private int[][][][] steps;

    /** How a VOICE came to a NOTE: what it comes to, and its PITCHES till there. */
    private record Way(int weight, List<Integer> row) {
        boolean isAheadOf(Way other) {
            if (other == null || weight != other.weight) {
                return other == null || weight < other.weight;
            }
            for (int i = 0; i < row.size(); i++) {
                if (!row.get(i).equals(other.row.get(i))) {
                    return row.get(i) < other.row.get(i);
                }
            }
            return false;
        }
    }

    private WideRuns(long seed) {
        random = new Random(seed);
    }

    static void run() {
        run(0, 36);
    }

    static void run(long from, long to) {
        for (long seed = from; seed < to; seed++) {
            new WideRuns(seed).go(LAWS[(int) (seed % LAWS.length)], "wide run " + seed);
        }
    }

    private void go(String pattern, String about) {
        String law = pattern.replace("A", "" + (1 + random.nextInt(12))).replace("B", "" + (2 + random.nextInt(11)));
        Check.about(about + ", " + law);
        int notes = random.nextInt(3) > 0 ? 12 : 6 + random.nextInt(6);
        for (int i = 0; i < notes; i++) {
            int under = random.nextInt(25);
            int here = random.nextInt(25);
            x.note(under, here);
            y.note(under, here);
        }
        y.laws.add(new PlainDesk.Parser(law, true).clauses());
        Check.due("the LAW", Check.inForce(x, law), 0);
        y.force = 0;
        ask("");
        int low = random.nextInt(9);
        int high = 16 + random.nextInt(9);
        int day = random.nextInt(20);
        for (int[] t : new int[][] {{0, day}, {2, 3}, {3, low}, {4, high}}) {
            x.terms(t[0], t[1]);
            y.terms(t[0], t[1]);
        }
        x.swap();
        y.swap();
        ask(" within " + low + ", " + high);
        cheapest(random.nextInt(notes));
        compared();
    }

    private void ask(String when) {
        steps = stepsOf();
        int low = y.terms[3];
        int high = y.terms[4];
        Way best = first(COSTS, low, high, -1, -1);
        Way mended = first(MENDED, low, high, -1, -1);
        Way richest = first(EARNS, low, high, -1, -1);
        Check.due("best(NONE)" + when, x.best(-1), best == null ? -1 : best.weight);
        Check.due("mend(NONE)" + when, x.mend(-1), mended == null ? -1 : mended.weight);
        Check.due("richest()" + when, x.richest(), richest == null ? -1 : -richest.weight);
        for (int i = 0; i < y.notes.size(); i++) {
            Check.due("best(" + i + ")" + when, x.best(i), best == null ? -1 : best.row.get(i));
            Check.due("mend(" + i + ")" + when, x.mend(i), mended == null ? -1 : mended.row.get(i));
        }
        Check.due("ways()" + when, x.ways(), ways(low, high));
        for (int k = 0; k < 12; k++) {
            int p = low + random.nextInt(high - low + 1);
            int q = low + random.nextInt(high - low + 1);
            Way between = first(COSTS, low, high, p, q);
            Check.due("between(" + p + ", " + q + ")" + when, x.between(p, q), between == null ? -1 : between.weight);
        }
        int[] compass = compass(low, high);
        Check.due("compass(0)" + when, x.compass(0), compass[0]);
        Check.due("compass(1)" + when, x.compass(1), compass[1]);
    }

    private void cheapest(int note) {
        PlainDesk.Note was = y.notes.get(note);
        int pitch = -1;
        int least = -1;
        for (int u = 0; u < 25; u++) {
            if (u == was.under()) {
                continue;
            }
            y.notes.set(note, new PlainDesk.Note(u, was.here()));
            steps = stepsOf();
            Way best = first(COSTS, y.terms[3], y.terms[4], -1, -1);
            if (best != null && (pitch < 0 || best.weight < least)) {
                pitch = u;
                least = best.weight;
            }
        }
        y.notes.set(note, was);
        Check.due("cheapest(" + note + ", 0)", x.cheapest(note, 0), pitch);
        Check.due("cheapest(" + note + ", 1)", x.cheapest(note, 1), least);
    }

    private void compared() {
        IntSupplier plain = () -> {
            steps = stepsOf();
            Way best = first(COSTS, y.terms[3], y.terms[4], -1, -1);
            return best == null ? -1 : best.weight;
        };
        x.force(-1);
        Check.due("compare(0)", x.compare(0), plain.getAsInt());
        y.force = -1;
        Check.due("compare(NONE)", x.compare(-1), plain.getAsInt());
    }

    private int[][][][] stepsOf() {
        int n = y.notes.size();
        int[][][][] made = new int[n][25][25][];
        for (int i = 0; i < n; i++) {
            List<PlainDesk.Note> v = new ArrayList<>(y.notes);
            for (int p = 0; p < (i == 0 ? 1 : 25); p++) {
                if (i > 0) {
                    v.set(i - 1, new PlainDesk.Note(y.notes.get(i - 1).under(), p));
                }
                for (int h = 0; h < 25; h++) {
                    v.set(i, new PlainDesk.Note(y.notes.get(i).under(), h));
                    made[i][p][h] = y.told(y.lawInForce(), v, i, 0);
                }
            }
        }
        return made;
    }

    /** The first VOICE that comes to least; from and to are its first and last PITCH, or -1. */
    private Way first(int aim, int low, int high, int from, int to) {
        int n = y.notes.size();
        Way[] ways = new Way[25];
        ways[0] = new Way(0, List.of());
        for (int i = 0; i < n; i++) {
            Way[] next = new Way[25];
            for (int h = low; h <= high; h++) {
                if (i == 0 && from >= 0 && h != from || i == n - 1 && to >= 0 && h != to) {
                    continue;
                }
                for (int p = 0; p < 25; p++) {
                    if (ways[p] == null || steps[i][p][h][BARRED] == 1) {
                        continue;
                    }
                    int weight = aim == MENDED ? h == y.notes.get(i).here() ? 0 : 1
                        : aim == EARNS ? -steps[i][p][h][EARNS] : steps[i][p][h][COSTS];
                    List<Integer> row = new ArrayList<>(ways[p].row);
                    row.add(h);
                    Way way = new Way(ways[p].weight + weight, row);
                    next[h] = way.isAheadOf(next[h]) ? way : next[h];
                }
            }
            ways = next;
        }
        Way best = null;
        for (Way way : ways) {
            best = way != null && way.isAheadOf(best) ? way : best;
        }
        return best;
    }

    private long ways(int low, int high) {
        long[] many = new long[25];
        many[0] = 1;
        for (int[][][] step : steps) {
            long[] next = new long[25];
            for (int p = 0; p < 25; p++) {
                for (int h = low; h <= high && many[p] > 0; h++) {
                    next[h] += step[p][h][BARRED] == 0 ? many[p] : 0;
                }
            }
            many = next;
        }
        long sum = 0;
        for (long m : many) {
            sum += m;
        }
        return sum;
    }

    /** How wide, its LOW. */
    private int[] compass(int low, int high) {
        for (int wide = 0; low + wide <= high; wide++) {
            for (int l = low; l + wide <= high; l++) {
                if (ways(l, l + wide) > 0) {
                    return new int[] {wide, l};
                }
            }
        }
        return new int[] {-1, -1};
    }
}
