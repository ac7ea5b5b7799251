import java.util.Random;

/** Runs of some 500 random calls each, compared call by call with PlainDesk; the seeds are told, so every run is the same. */
final class RandomRuns {
    /** No step makes more than a hundred calls, and none must be the 513th. */
    private static final int CALLS = 512 - 100;
    private static final String[] LAW_WORDS =
        {"place", "here", "under", "apart", "ahead", "leap", "moves", "last", "day", "mood"};
    private static final String[] ORDER_WORDS = {"day", "done", "latest", "barred", "all", "here", "under"};
    private static final String[] STRAY = {"costs", "bars", "if", "or", "(", ")", "[", "]", ";", "1001", "0", "to", "*", "not", "Z", "="};

    private final Random random;
    private final CounterDesk x = new CounterDesk();
    private final PlainDesk y = new PlainDesk();
    private int calls = 0;

    private RandomRuns(long seed) {
        random = new Random(seed);
    }

    static void run() {
        run(0, 60);
    }

    static void run(long from, long to) {
        for (long seed = from; seed < to; seed++) {
            Check.about("random run " + seed);
            new RandomRuns(seed).go();
        }
    }

    private void go() {
        // Few NOTES and a narrow compass in most runs, so that PlainDesk can go through all VOICES.
        int notes = random.nextInt(6);
        for (int i = 0; i < notes; i++) {
            int u = random.nextInt(25);
            int h = random.nextInt(25);
            due("note", x.note(u, h), y.note(u, h));
        }
        int low = random.nextInt(25);
        narrow(low, Math.min(24, low + random.nextInt(6)));
        while (calls < CALLS) {
            step();
        }
    }

    private void due(String call, long got, long want) {
        calls++;
        Check.due("call " + calls + ", " + call, got, want);
    }

    private void narrow(int low, int high) {
        due("terms", x.terms(3, low), y.terms(3, low));
        due("terms", x.terms(4, high), y.terms(4, high));
    }

    private int pitch() {
        return random.nextInt(27) - 1;
    }

    private int note() {
        int n = y.notes.size();
        return random.nextInt(8) == 0 ? random.nextInt(16) - 2 : random.nextInt(Math.max(1, n));
    }

    private void step() {
        int kind = random.nextInt(100);
        if (kind < 8) {
            text(random.nextInt(10) < 6);
        } else if (kind < 40) {
            change();
        } else if (kind < 75) {
            voices();
        } else {
            look();
        }
        if (random.nextInt(4) == 0) {
            due("status", x.status(), y.status);
        }
    }

    private void change() {
        int a = note();
        int p = pitch();
        int q = pitch();
        switch (random.nextInt(16)) {
            case 0:
                if (y.notes.size() < 5 || random.nextInt(6) == 0) {
                    due("note", x.note(p, q), y.note(p, q));
                }
                break;
            case 1, 2, 3:
                due("set(" + a + "," + p + ")", x.set(a, p), y.set(a, p));
                break;
            case 4, 5:
                due("shift(" + a + "," + p + ")", x.shift(a, p), y.shift(a, p));
                break;
            case 6:
                due("swap", x.swap(), y.swap());
                break;
            case 7:
                due("pass", x.pass(), y.pass());
                break;
            case 8, 9:
                due("undo", x.undo(), y.undo());
                break;
            case 10:
                int what = random.nextInt(7) - 1;
                int value = random.nextInt(12) - 1;
                if (what == 3 || what == 4) {
                    int low = random.nextInt(25);
                    narrow(low, Math.min(24, low + random.nextInt(5)));
                } else {
                    value = what == 0 && random.nextInt(3) == 0 ? 995 + random.nextInt(6) : value;
                    due("terms(" + what + "," + value + ")", x.terms(what, value), y.terms(what, value));
                }
                break;
            case 11:
                int law = random.nextInt(9) - 2;
                due("force(" + law + ")", x.force(law), y.force(law));
                break;
            case 12:
                int fact = random.nextInt(6) - 1;
                int n = y.notes.size() > a && a >= 0 && fact >= 0 && fact < 4 && random.nextInt(3) > 0
                    ? y.fact(a, fact) : random.nextInt(20) == 0 ? random.nextInt(1100) - 50 : random.nextInt(12) - 3;
                due("heard(" + fact + "," + n + ")", x.heard(fact, n), y.heard(fact, n));
                break;
            case 13:
                due("forget", x.forget(), y.forget());
                break;
            case 14:
                int k = random.nextInt(8) == 0 ? random.nextInt(4) - 1 : random.nextInt(2);
                if (random.nextInt(2) == 0) {
                    due("image(" + k + ")", x.image(k), y.image(k));
                } else {
                    due("back(" + k + ")", x.back(k), y.back(k));
                }
                break;
            default:
                int seed = random.nextInt(20) == 0 ? random.nextInt(3) + 999_999 : random.nextInt(1_000_002) - 1;
                int weeks = random.nextInt(10) == 0 ? random.nextInt(64) - 1 : random.nextInt(8);
                due("weeks(" + seed + "," + weeks + ")", x.weeks(seed, weeks), y.weeks(seed, weeks));
                break;
        }
    }

    private void voices() {
        int what = random.nextInt(4) - 1;
        int a = note();
        if (y.tooMany()) {
            return;
        }
        switch (random.nextInt(10)) {
            case 0, 1:
                int i = random.nextBoolean() ? -1 : a;
                due("best(" + i + ")", x.best(i), y.best(i));
                break;
            case 2, 3:
                int p = random.nextInt(3) == 0 ? pitch() : y.terms[3] + random.nextInt(3);
                int q = random.nextInt(3) == 0 ? pitch() : y.terms[4] - random.nextInt(3);
                due("between(" + p + "," + q + ")", x.between(p, q), y.between(p, q));
                break;
            case 4:
                due("richest", x.richest(), y.richest());
                break;
            case 5:
                due("ways", x.ways(), y.ways());
                break;
            case 6:
                int j = random.nextBoolean() ? -1 : a;
                due("mend(" + j + ")", x.mend(j), y.mend(j));
                break;
            case 7:
                due("compass(" + what + ")", x.compass(what), y.compass(what));
                break;
            case 8:
                int law = random.nextInt(8) - 2;
                due("compare(" + law + ")", x.compare(law), y.compare(law));
                break;
            default:
                if (y.notes.size() < 4) {
                    due("cheapest(" + a + "," + what + ")", x.cheapest(a, what), y.cheapest(a, what));
                }
                break;
        }
    }

    private void look() {
        int a = note();
        int what = random.nextInt(7) - 1;
        switch (random.nextInt(13)) {
            case 0, 1:
                due("of(" + a + "," + what + ")", x.of(a, what), y.of(a, what));
                break;
            case 2:
                due("at(" + a + "," + what + ")", x.at(a, what), y.at(a, what));
                break;
            case 3:
                due("all(" + what + ")", x.all(what), y.all(what));
                break;
            case 4:
                int d = random.nextInt(4);
                int i = random.nextInt(6) - 2;
                due("canon(" + d + "," + i + ")", x.canon(d, i), y.canon(d, i));
                break;
            case 5:
                int b = random.nextInt(14) - 1;
                due("parallels(" + b + ")", x.parallels(b), y.parallels(b));
                break;
            case 6:
                due("canBe", x.canBe(), y.canBe());
                break;
            case 7:
                int l = random.nextInt(4) - 1;
                due("listen(" + l + ")", x.listen(l), y.listen(l));
                break;
            case 8:
                int k = random.nextInt(22);
                int n = random.nextInt(102) - 1;
                due("few(" + k + "," + n + ")", x.few(k, n), y.few(k, n));
                break;
            case 9:
                due("drawn(" + a + "," + what + ")", x.drawn(a, what), y.drawn(a, what));
                break;
            case 10:
                due("blots", x.blots(), y.blots);
                break;
            case 11:
                row();
                break;
            default:
                int c = random.nextInt(19) - 1;
                due("count(" + c + ")", x.count(c), y.count(c));
                break;
        }
    }

    private void row() {
        byte[] bytes = new byte[random.nextInt(6)];
        for (int i = 0; i < bytes.length; i++) {
            bytes[i] = (byte) (random.nextInt(8) == 0 ? random.nextInt(256) : random.nextInt(25));
        }
        if (y.notes.size() >= 4 && random.nextInt(4) > 0) {
            return;
        }
        tape(bytes);
        due("row", x.row(), y.row());
        due("blots", x.blots(), y.blots);
    }

    private void tape(byte[] bytes) {
        for (int i = 0; i < bytes.length; i += 20) {
            int[] f = new int[5];
            for (int k = 0; k < 5; k++) {
                f[k] = Check.four(bytes, i + 4 * k);
            }
            due("feed", x.feed(f[0], f[1], f[2], f[3], f[4]), y.feed(f));
        }
        int n = random.nextInt(20) == 0 ? random.nextInt(402) - 1 : bytes.length;
        due("end(" + n + ")", x.end(n), y.end(n));
    }

    // ---- texts

    private void text(boolean law) {
        StringBuilder made = new StringBuilder();
        int clauses = random.nextInt(30) == 0 ? 11 + random.nextInt(3) : 1 + random.nextInt(4);
        for (int c = 0; c < clauses; c++) {
            made.append(c == 0 ? "" : random.nextBoolean() ? ";" : " ; ");
            made.append(law ? lawClause() : orderClause());
        }
        String text = made.toString();
        if (random.nextInt(4) == 0) {
            text = spoilt(text);
        }
        if (text.length() > 400) {
            text = text.substring(0, 400);
        }
        if (random.nextInt(3) > 0) {
            // Many texts would soon fill the room for LAWS.
            due("back(0)", x.back(0), y.back(0));
        }
        due("end(0)", x.end(0), y.end(0));
        tape(text.getBytes(java.nio.charset.StandardCharsets.ISO_8859_1));
        if (law) {
            due("law \"" + text + "\"", x.law(), y.law());
            int last = y.laws.size() - 1;
            if (random.nextInt(3) > 0) {
                due("force(" + last + ")", x.force(last), y.force(last));
            }
        } else {
            due("orders \"" + text + "\"", x.orders(), y.orders());
            due("stopped", x.stopped(), y.stopped);
        }
        due("fault", x.fault(), y.fault);
        due("status", x.status(), y.status);
        for (int i = 0; i < y.notes.size() && random.nextInt(3) == 0; i++) {
            for (int what = 0; what < 5; what++) {
                due("of(" + i + "," + what + ")", x.of(i, what), y.of(i, what));
            }
        }
    }

    private String spoilt(String text) {
        int at = random.nextInt(text.length() + 1);
        switch (random.nextInt(5)) {
            case 0:
                return text.substring(0, at);
            case 1:
                return text.substring(0, at) + (char) random.nextInt(256) + text.substring(at);
            case 2:
                return text.substring(0, at) + " " + STRAY[random.nextInt(STRAY.length)] + " " + text.substring(at);
            case 3:
                return text.substring(0, at) + text.substring(Math.min(text.length(), at + 1 + random.nextInt(4)));
            default:
                return text + " ".repeat(random.nextInt(5)) + STRAY[random.nextInt(STRAY.length)];
        }
    }

    private String lawClause() {
        int kind = random.nextInt(10);
        String head = kind < 4 ? "costs " + sum(2, true) : kind < 6 ? "earns " + sum(2, true) : "bars";
        return head + (kind >= 6 && random.nextInt(8) > 0 || random.nextBoolean() ? " if " + test(2, true) : "");
    }

    private String orderClause() {
        int kind = random.nextInt(10);
        String head = kind < 4 ? "set " + place() + " to " + sum(1, false)
            : kind < 6 ? "shift " + place() + " to " + sum(1, false) : kind < 7 ? "swap" : "pass";
        return head + (random.nextInt(3) == 0 ? " times " + random.nextInt(22) : "")
            + (random.nextBoolean() ? " if " + test(1, false) : "");
    }

    private String place() {
        return random.nextInt(4) == 0 ? sum(1, false) : "" + random.nextInt(Math.max(1, y.notes.size()));
    }

    private String test(int deep, boolean law) {
        int kind = random.nextInt(deep > 0 ? 9 : 4);
        if (kind == 4) {
            return "not " + test(deep - 1, law);
        }
        if (kind == 5) {
            return "(" + test(deep - 1, law) + ")";
        }
        if (kind > 5) {
            return test(deep - 1, law) + (random.nextBoolean() ? " or " : " and ") + test(deep - 1, law);
        }
        return sum(1, law) + "<>=".charAt(random.nextInt(3)) + sum(1, law);
    }

    private String sum(int deep, boolean law) {
        int kind = random.nextInt(deep > 0 ? 8 : 4);
        if (kind == 4) {
            return "[" + sum(deep - 1, law) + "]";
        }
        if (kind > 4) {
            return sum(deep - 1, law) + "+-*/%".charAt(random.nextInt(5)) + sum(deep - 1, law);
        }
        if (kind < 2) {
            return "" + (random.nextInt(6) == 0 ? random.nextInt(1003) : random.nextInt(13));
        }
        if (law) {
            return LAW_WORDS[random.nextInt(LAW_WORDS.length)];
        }
        String word = ORDER_WORDS[random.nextInt(ORDER_WORDS.length)];
        return word.equals("here") || word.equals("under") ? word + " " + random.nextInt(13) : word;
    }
}
