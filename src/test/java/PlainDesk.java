import java.math.BigInteger;
import java.util.ArrayList;
import java.util.Arrays;
import java.util.HashMap;
import java.util.List;
import java.util.Map;
import java.util.function.Predicate;
import java.util.function.ToIntFunction;

/**
 * The document said once more, as plainly as can be and without a thought for speed: TEXTS become trees,
 * VOICES are gone through one by one. RandomRuns compares CounterDesk with it.
 */
final class PlainDesk {
    /** How many VOICES are gone through at most; a question that needs more must not be asked. */
    static final long MOST_VOICES = 4000;

    static final class Broken extends RuntimeException {
        Broken() {
            super(null, null, false, false);
        }
    }

    static final class Faulty extends RuntimeException {
        final int at;

        Faulty(int at) {
            super(null, null, false, false);
            this.at = at;
        }
    }

    static final class Refusal extends RuntimeException {
        final int why;

        Refusal(int why) {
            super(null, null, false, false);
            this.why = why;
        }
    }

    interface Sum {
        BigInteger of(Map<String, Integer> words);
    }

    interface Test {
        boolean of(Map<String, Integer> words);
    }

    record Clause(String verb, Sum first, Sum second, int times, Test test) {
        boolean asks(Map<String, Integer> words) {
            try {
                return test == null || test.of(words);
            } catch (Broken b) {
                return false;
            }
        }
    }

    record Note(int under, int here) {
    }

    record Done(int kind, List<Note> notes, int day) {
    }

    record Kept(List<Note> notes, int[] terms, List<int[]> heard, List<List<Clause>> laws, int force) {
    }

    List<Note> notes = new ArrayList<>();
    int[] terms = {0, 1, 0, 0, 24};
    List<int[]> heard = new ArrayList<>();
    List<List<Clause>> laws = new ArrayList<>();
    int force = -1;
    List<Done> undoable = new ArrayList<>();
    String tape = "";
    int blots = 0;
    int fault = -1;
    int stopped = -1;
    int status = 0;
    int[] refused = new int[7];
    List<Note> drawn = new ArrayList<>();
    Kept[] images = new Kept[2];

    // ---- the languages

    static final class Parser {
        final String text;
        final boolean law;
        final List<String> tokens = new ArrayList<>();
        final List<Integer> places = new ArrayList<>();
        int at = 0;
        int parts = 0;

        Parser(String text, boolean law) {
            this.text = text;
            this.law = law;
            java.util.regex.Matcher m = java.util.regex.Pattern
                .compile("[a-z]+|[0-9]+|[^ ]", java.util.regex.Pattern.DOTALL).matcher(text);
            while (m.find()) {
                tokens.add(m.group());
                places.add(m.start());
            }
            tokens.add("");
            places.add(text.length());
        }

        String now() {
            return tokens.get(at);
        }

        Faulty faulty() {
            return new Faulty(places.get(at));
        }

        boolean take(String... any) {
            if (Arrays.asList(any).contains(now())) {
                at++;
                return true;
            }
            return false;
        }

        void need(String one) {
            if (!take(one)) {
                throw faulty();
            }
        }

        int number(int from, int to) {
            if (!now().matches("[0-9]+")) {
                throw faulty();
            }
            BigInteger n = new BigInteger(now());
            if (n.compareTo(BigInteger.valueOf(from)) < 0 || n.compareTo(BigInteger.valueOf(to)) > 0) {
                throw faulty();
            }
            at++;
            return n.intValue();
        }

        List<Clause> clauses() {
            List<Clause> made = new ArrayList<>();
            do {
                if (made.size() == 12) {
                    throw faulty();
                }
                made.add(clause());
            } while (take(";"));
            if (!now().isEmpty()) {
                throw faulty();
            }
            return made;
        }

        Clause clause() {
            String verb = now();
            List<String> verbs = law ? List.of("costs", "earns", "bars") : List.of("set", "shift", "swap", "pass");
            if (!verbs.contains(verb)) {
                throw faulty();
            }
            at++;
            Sum first = null;
            Sum second = null;
            int times = 1;
            if (verb.equals("costs") || verb.equals("earns")) {
                first = sum(0);
            } else if (verb.equals("set") || verb.equals("shift")) {
                first = sum(0);
                need("to");
                second = sum(0);
            }
            if (!law && take("times")) {
                times = number(1, 20);
            }
            Test test = take("if") ? test(0) : null;
            return new Clause(verb, first, second, times, test);
        }

        Test test(int inside) {
            Test left = both(inside);
            while (take("or")) {
                Test a = left;
                Test b = both(inside);
                left = w -> a.of(w) || b.of(w);
            }
            return left;
        }

        Test both(int inside) {
            Test left = plain(inside);
            while (take("and")) {
                Test a = left;
                Test b = plain(inside);
                left = w -> a.of(w) && b.of(w);
            }
            return left;
        }

        void open(int inside) {
            if (inside == 8) {
                throw faulty();
            }
            at++;
        }

        Test plain(int inside) {
            if (take("not")) {
                Test a = plain(inside);
                return w -> !a.of(w);
            }
            if (now().equals("(")) {
                open(inside);
                Test a = test(inside + 1);
                need(")");
                return a;
            }
            Sum a = sum(inside);
            String sign = now();
            if (!take("<", ">", "=")) {
                throw faulty();
            }
            Sum b = sum(inside);
            return w -> {
                int c = a.of(w).compareTo(b.of(w));
                return sign.equals("<") ? c < 0 : sign.equals(">") ? c > 0 : c == 0;
            };
        }

        static BigInteger checked(BigInteger n) {
            if (n.abs().compareTo(BigInteger.valueOf(1_000_000_000)) > 0) {
                throw new Broken();
            }
            return n;
        }

        Sum sum(int inside) {
            Sum left = term(inside);
            while (now().equals("+") || now().equals("-")) {
                boolean plus = take("+");
                if (!plus) {
                    take("-");
                }
                Sum a = left;
                Sum b = term(inside);
                left = w -> checked(plus ? a.of(w).add(b.of(w)) : a.of(w).subtract(b.of(w)));
            }
            return left;
        }

        Sum term(int inside) {
            Sum left = part(inside);
            String sign = now();
            while (take("*", "/", "%")) {
                String s = sign;
                Sum a = left;
                Sum b = part(inside);
                left = w -> {
                    BigInteger x = a.of(w);
                    BigInteger y = b.of(w);
                    if (s.equals("*")) {
                        return checked(x.multiply(y));
                    }
                    if (y.signum() == 0) {
                        throw new Broken();
                    }
                    return checked(s.equals("/") ? x.divide(y) : x.remainder(y));
                };
                sign = now();
            }
            return left;
        }

        Sum part(int inside) {
            if (now().equals("[")) {
                open(inside);
                Sum a = sum(inside + 1);
                need("]");
                return a;
            }
            if (parts == 50) {
                throw faulty();
            }
            parts++;
            if (now().matches("[0-9]+")) {
                BigInteger n = BigInteger.valueOf(number(0, 1000));
                return w -> n;
            }
            List<String> known = law
                ? List.of("place", "here", "under", "apart", "ahead", "leap", "moves", "last", "day", "mood")
                : List.of("day", "done", "latest", "barred", "all", "here", "under");
            String word = now();
            if (!known.contains(word)) {
                throw faulty();
            }
            at++;
            String key = !law && (word.equals("here") || word.equals("under")) ? word + number(0, 11) : word;
            return w -> BigInteger.valueOf(w.get(key));
        }
    }

    // ---- what a law tells

    List<Clause> lawInForce() {
        return force < 0 ? List.of() : laws.get(force);
    }

    /** COSTS, EARNS, whether BARRED, of NOTE i of the voices; the NOTE numbered first has none ahead. */
    int[] told(List<Clause> law, List<Note> v, int i, int first) {
        Map<String, Integer> w = new HashMap<>();
        Note n = v.get(i);
        Note ahead = i > first ? v.get(i - 1) : null;
        w.put("place", i);
        w.put("here", n.here);
        w.put("under", n.under);
        w.put("apart", n.here - n.under);
        w.put("ahead", ahead == null ? 0 : ahead.here - ahead.under);
        w.put("leap", ahead == null ? 0 : n.here - ahead.here);
        w.put("moves", ahead == null ? 0 : n.under - ahead.under);
        w.put("last", i == v.size() - 1 ? 1 : 0);
        w.put("day", terms[0]);
        w.put("mood", terms[2]);
        int costs = Math.abs(w.get("leap"));
        int earns = 1;
        int barred = 0;
        for (Clause c : law) {
            if (!c.asks(w)) {
                continue;
            }
            try {
                if (c.verb.equals("bars")) {
                    barred = 1;
                } else if (c.verb.equals("costs")) {
                    costs = Math.max(0, Math.min(999, c.first.of(w).intValueExact()));
                } else {
                    earns = Math.max(0, Math.min(99, c.first.of(w).intValueExact()));
                }
            } catch (Broken b) {
                continue;
            }
        }
        return new int[] {costs, earns, barred};
    }

    int total(List<Clause> law, List<Note> v, int what) {
        int sum = 0;
        for (int i = 0; i < v.size(); i++) {
            sum += told(law, v, i, 0)[what];
        }
        return sum;
    }

    // ---- voices

    List<Note> sung(int... here) {
        List<Note> made = new ArrayList<>();
        for (int i = 0; i < notes.size(); i++) {
            made.add(new Note(notes.get(i).under, here[i]));
        }
        return made;
    }

    boolean tooMany() {
        long n = 1;
        for (int i = 0; i < notes.size(); i++) {
            n *= Math.max(0, terms[4] - terms[3] + 1);
            if (n > MOST_VOICES) {
                return true;
            }
        }
        return false;
    }

    /** All VOICES, as rows of PITCHES rising. */
    List<int[]> voices(List<Clause> law) {
        List<int[]> made = new ArrayList<>();
        fill(law, new int[notes.size()], 0, made);
        return made;
    }

    private void fill(List<Clause> law, int[] row, int i, List<int[]> made) {
        if (i == row.length) {
            if (total(law, sung(row), 2) == 0) {
                made.add(row.clone());
            }
            return;
        }
        for (int h = terms[3]; h <= terms[4]; h++) {
            row[i] = h;
            fill(law, row, i + 1, made);
        }
    }

    /** The first voice that comes to least by the scale; null if there is none. */
    int[] first(List<Clause> law, ToIntFunction<int[]> scale, Predicate<int[]> which) {
        int[] best = null;
        for (int[] v : voices(law)) {
            if (which.test(v) && (best == null || scale.applyAsInt(v) < scale.applyAsInt(best))) {
                best = v;
            }
        }
        return best;
    }

    int bestCost(List<Clause> law) {
        if (notes.isEmpty()) {
            return 0;
        }
        int[] v = first(law, r -> total(law, sung(r), 0), r -> true);
        return v == null ? -1 : total(law, sung(v), 0);
    }

    int best(int i) {
        List<Clause> law = lawInForce();
        return ofFirst(law, r -> total(law, sung(r), 0), i);
    }

    int mend(int i) {
        return ofFirst(lawInForce(), this::differ, i);
    }

    private int differ(int[] row) {
        int n = 0;
        for (int i = 0; i < row.length; i++) {
            n += row[i] == notes.get(i).here ? 0 : 1;
        }
        return n;
    }

    private int ofFirst(List<Clause> law, ToIntFunction<int[]> scale, int i) {
        if (i == -1 && notes.isEmpty()) {
            return 0;
        }
        if (i < -1 || i >= notes.size()) {
            return -1;
        }
        int[] v = first(law, scale, r -> true);
        return v == null ? -1 : i == -1 ? scale.applyAsInt(v) : v[i];
    }

    int between(int p, int q) {
        if (notes.isEmpty()) {
            return -1;
        }
        List<Clause> law = lawInForce();
        int[] v = first(law, r -> total(law, sung(r), 0), r -> r[0] == p && r[r.length - 1] == q);
        return v == null ? -1 : total(law, sung(v), 0);
    }

    int richest() {
        if (notes.isEmpty()) {
            return 0;
        }
        List<Clause> law = lawInForce();
        int[] v = first(law, r -> -total(law, sung(r), 1), r -> true);
        return v == null ? -1 : total(law, sung(v), 1);
    }

    long ways() {
        return notes.isEmpty() ? 1 : voices(lawInForce()).size();
    }

    int compass(int what) {
        if (what < 0 || what > 1) {
            return -1;
        }
        if (notes.isEmpty()) {
            return terms[3] > terms[4] ? -1 : what == 0 ? 0 : terms[3];
        }
        int width = -1;
        int low = -1;
        List<int[]> all = voices(lawInForce());
        for (int l = terms[3]; l <= terms[4]; l++) {
            for (int[] v : all) {
                int least = Arrays.stream(v).min().getAsInt();
                int most = Arrays.stream(v).max().getAsInt();
                if (least >= l && (width < 0 || most - l < width)) {
                    width = most - l;
                    low = l;
                }
            }
        }
        return what == 0 ? width : low;
    }

    int cheapest(int note, int what) {
        if (note < 0 || note >= notes.size() || what < 0 || what > 1) {
            return -1;
        }
        Note was = notes.get(note);
        int pitch = -1;
        int least = -1;
        for (int u = 0; u < 25; u++) {
            if (u != was.under) {
                notes.set(note, new Note(u, was.here));
                int cost = bestCost(lawInForce());
                if (cost >= 0 && (least < 0 || cost < least)) {
                    least = cost;
                    pitch = u;
                }
            }
        }
        notes.set(note, was);
        return what == 0 ? pitch : least;
    }

    int canon(int d, int i) {
        if (d < 1 || d > 11 || d >= notes.size()) {
            return -1000;
        }
        List<Integer> heights = new ArrayList<>();
        for (int h = -24; h <= 24; h++) {
            List<Note> v = new ArrayList<>(notes);
            boolean can = true;
            for (int k = d; k < v.size(); k++) {
                int here = notes.get(k - d).under + h;
                can &= here >= 0 && here <= 24;
                v.set(k, new Note(notes.get(k).under, here));
            }
            for (int k = d; k < v.size() && can; k++) {
                can = told(lawInForce(), v, k, d)[2] == 0;
            }
            if (can) {
                heights.add(h);
            }
        }
        return i == -1 ? heights.size() : i >= 0 && i < heights.size() ? heights.get(i) : -1000;
    }

    int parallels(int a) {
        if (a < 0 || a > 11) {
            return -1;
        }
        int bits = 0;
        for (int i = 1; i < notes.size(); i++) {
            if (Math.abs(at(i, 0)) % 12 == a && Math.abs(at(i - 1, 0)) % 12 == a && at(i, 1) != 0) {
                bits |= 1 << i;
            }
        }
        return bits;
    }

    // ---- what is heard

    int fact(int i, int fact) {
        return fact < 2 ? at(i, fact) : told(lawInForce(), notes, i, 0)[fact - 2];
    }

    int canBe() {
        int bits = 0;
        for (int i = 0; i < notes.size(); i++) {
            int note = i;
            if (heard.stream().allMatch(h -> fact(note, h[0]) == h[1])) {
                bits |= 1 << i;
            }
        }
        return bits;
    }

    int listen(int what) {
        int left = canBe();
        if (left == 0 || what < 0 || what > 1) {
            return -1;
        }
        int best = -1;
        int fewest = 99;
        for (int f = 0; f < 4; f++) {
            Map<Integer, Integer> groups = new HashMap<>();
            for (int i = 0; i < notes.size(); i++) {
                if ((left >> i & 1) == 1) {
                    groups.merge(fact(i, f), 1, Integer::sum);
                }
            }
            int most = groups.values().stream().mapToInt(n -> n).max().getAsInt();
            if (most < fewest) {
                fewest = most;
                best = f;
            }
        }
        return what == 0 ? best : fewest;
    }

    long few(int k, int n) {
        if (k < 1 || k > 20 || n < 0 || n > 99) {
            return -1;
        }
        long[] parts = new long[101];
        parts[0] = 1_000_000_000_000L;
        for (int note = 0; note < n; note++) {
            long[] next = new long[101];
            for (int j = 0; j < 100; j++) {
                next[j] += parts[j] * (10 - terms[1]) / 10;
                next[j + 1] += parts[j] * terms[1] / 10;
            }
            parts = next;
        }
        return Arrays.stream(parts, 0, k).sum();
    }

    int compare(int law) {
        return law < -1 || law >= laws.size() ? -1 : bestCost(law < 0 ? List.of() : laws.get(law));
    }

    // ---- what changes

    interface Call {
        int answer();
    }

    int tried(Call call) {
        try {
            int told = call.answer();
            status = 0;
            return told;
        } catch (Refusal r) {
            status = r.why;
            refused[-r.why]++;
            return r.why;
        }
    }

    static void refuse(int why, boolean when) {
        if (when) {
            throw new Refusal(why);
        }
    }

    static boolean pitch(int p) {
        return p >= 0 && p <= 24;
    }

    int note(int under, int here) {
        return tried(() -> {
            refuse(-1, !pitch(under) || !pitch(here));
            refuse(-5, notes.size() == 12);
            notes.add(new Note(under, here));
            undoable.clear();
            return notes.size() - 1;
        });
    }

    int of(int note, int what) {
        if (note < 0 || note >= notes.size() || what < 0 || what > 4) {
            return -1;
        }
        Note n = notes.get(note);
        return what == 0 ? n.under : what == 1 ? n.here : told(lawInForce(), notes, note, 0)[what - 2];
    }

    int at(int note, int what) {
        if (note < 0 || note >= notes.size() || what < 0 || what > 1) {
            return -1000;
        }
        Note n = notes.get(note);
        return what == 0 ? n.here - n.under : note == 0 ? 0 : n.here - notes.get(note - 1).here;
    }

    int all(int what) {
        return what < 0 || what > 2 ? -1 : total(lawInForce(), notes, what);
    }

    int terms(int what, int value) {
        return tried(() -> {
            refuse(-1, what < 0 || what > 4 || value < 0 || value > new int[] {999, 10, 9, 24, 24}[what]);
            int was = terms[what];
            terms[what] = value;
            undoable.clear();
            return was;
        });
    }

    int feed(int... five) {
        if (tape.length() > 380) {
            return -1;
        }
        for (int n : five) {
            for (int k = 3; k >= 0; k--) {
                tape += (char) (n >>> 8 * k & 255);
            }
        }
        return tape.length();
    }

    int end(int n) {
        if (n < 0 || n > tape.length()) {
            return -1;
        }
        tape = tape.substring(0, n);
        return n;
    }

    String eaten() {
        String was = tape;
        tape = "";
        return was;
    }

    int row() {
        return tried(() -> {
            String bytes = eaten();
            refuse(-6, bytes.isEmpty());
            int before = notes.size();
            blots = 0;
            for (int i = 0; i < bytes.length(); i += 2) {
                int under = bytes.charAt(i);
                int here = i + 1 < bytes.length() ? bytes.charAt(i + 1) : 99;
                if (pitch(under) && pitch(here) && notes.size() < 12) {
                    notes.add(new Note(under, here));
                } else {
                    blots++;
                }
            }
            undoable.clear();
            return notes.size() - before;
        });
    }

    List<Clause> read(String text, boolean law) {
        try {
            fault = -1;
            return new Parser(text, law).clauses();
        } catch (Faulty f) {
            fault = f.at;
            throw new Refusal(-6);
        }
    }

    int law() {
        return tried(() -> {
            String text = eaten();
            refuse(-5, laws.size() == 6);
            laws.add(read(text, true));
            return laws.size() - 1;
        });
    }

    int force(int law) {
        return tried(() -> {
            refuse(-2, law < -1 || law >= laws.size());
            int was = force;
            force = law;
            return was;
        });
    }

    void keep(int kind) {
        undoable.add(new Done(kind, new ArrayList<>(notes), terms[0]));
        if (undoable.size() > 16) {
            undoable.remove(0);
        }
    }

    int doSet(int note, int pitch) {
        refuse(-1, !pitch(pitch));
        refuse(-2, note < 0 || note >= notes.size());
        Note n = notes.get(note);
        refuse(-3, n.here == pitch);
        keep(0);
        notes.set(note, new Note(n.under, pitch));
        return n.here;
    }

    int doShift(int note, int pitch) {
        refuse(-1, !pitch(pitch));
        refuse(-2, note < 0 || note >= notes.size());
        Note n = notes.get(note);
        refuse(-3, n.under == pitch);
        keep(1);
        notes.set(note, new Note(pitch, n.here));
        return n.under;
    }

    int doSwap() {
        refuse(-3, notes.isEmpty());
        keep(2);
        notes.replaceAll(n -> new Note(n.here, n.under));
        return notes.size();
    }

    int doPass() {
        refuse(-3, terms[0] == 999);
        keep(3);
        int barred = all(2);
        terms[0]++;
        return barred;
    }

    int set(int note, int pitch) {
        return tried(() -> doSet(note, pitch));
    }

    int shift(int note, int pitch) {
        return tried(() -> doShift(note, pitch));
    }

    int swap() {
        return tried(this::doSwap);
    }

    int pass() {
        return tried(this::doPass);
    }

    int undo() {
        return tried(() -> {
            refuse(-3, undoable.isEmpty());
            Done d = undoable.remove(undoable.size() - 1);
            notes = d.notes;
            terms[0] = d.day;
            return d.kind;
        });
    }

    int orders() {
        return tried(() -> {
            stopped = -1;
            List<Clause> text = read(eaten(), false);
            List<Note> notesAhead = new ArrayList<>(notes);
            List<Done> undoableAhead = new ArrayList<>(undoable);
            int dayAhead = terms[0];
            int done = 0;
            int latest = -1;
            for (int c = 0; c < text.size(); c++) {
                Clause clause = text.get(c);
                for (int t = 0; t < clause.times; t++) {
                    Map<String, Integer> w = orderWords(done, latest);
                    if (!clause.asks(w)) {
                        continue;
                    }
                    try {
                        switch (clause.verb) {
                            case "set" -> doSet(clause.first.of(w).intValueExact(), clause.second.of(w).intValueExact());
                            case "shift" -> doShift(clause.first.of(w).intValueExact(), clause.second.of(w).intValueExact());
                            case "swap" -> doSwap();
                            default -> latest = doPass();
                        }
                        done++;
                    } catch (Refusal | Broken why) {
                        notes = notesAhead;
                        undoable = undoableAhead;
                        terms[0] = dayAhead;
                        stopped = c;
                        throw new Refusal(-3);
                    }
                }
            }
            return done;
        });
    }

    private Map<String, Integer> orderWords(int done, int latest) {
        Map<String, Integer> w = new HashMap<>();
        w.put("day", terms[0]);
        w.put("done", done);
        w.put("latest", latest);
        w.put("barred", all(2));
        w.put("all", all(0));
        for (int i = 0; i < 12; i++) {
            w.put("here" + i, of(i, 1));
            w.put("under" + i, of(i, 0));
        }
        return w;
    }

    int heard(int fact, int n) {
        return tried(() -> {
            refuse(-1, fact < 0 || fact > 3 || n < -24 || n > 999);
            refuse(-5, heard.size() == 6);
            heard.add(new int[] {fact, n});
            return heard.size();
        });
    }

    int forget() {
        int was = heard.size();
        heard.clear();
        return was;
    }

    int weeks(int seed, int n) {
        return tried(() -> {
            refuse(-1, seed < 0 || seed > 1_000_000 || n < 1 || n > 60);
            refuse(-3, notes.isEmpty());
            List<Note> notesAhead = new ArrayList<>(notes);
            int dayAhead = terms[0];
            long[] s = {seed};
            int barred = 0;
            for (int k = 0; k < n; k++) {
                if (terms[0] >= 999) {
                    break;
                }
                int note = draw(s, notes.size());
                int pitch = draw(s, 25);
                int what = draw(s, 4);
                Note was = notes.get(note);
                if (what < 2) {
                    notes.set(note, new Note(was.under, pitch));
                } else if (what == 2) {
                    notes.set(note, new Note(pitch, was.here));
                } else {
                    notes.replaceAll(x -> new Note(x.here, x.under));
                }
                barred += all(2);
                terms[0]++;
            }
            drawn = notes;
            notes = notesAhead;
            terms[0] = dayAhead;
            return barred;
        });
    }

    private static int draw(long[] s, int m) {
        s[0] = (s[0] * 1103 + 12345) % 1_000_003;
        return (int) (s[0] % m);
    }

    int drawn(int note, int what) {
        if (note < 0 || note >= drawn.size() || what < 0 || what > 1) {
            return -1;
        }
        return what == 0 ? drawn.get(note).under : drawn.get(note).here;
    }

    int image(int k) {
        return tried(() -> {
            refuse(-1, k < 0 || k > 1);
            images[k] = new Kept(new ArrayList<>(notes), terms.clone(), new ArrayList<>(heard), new ArrayList<>(laws), force);
            return 0;
        });
    }

    int back(int k) {
        return tried(() -> {
            refuse(-1, k < 0 || k > 1);
            refuse(-2, images[k] == null);
            Kept i = images[k];
            notes = new ArrayList<>(i.notes);
            terms = i.terms.clone();
            heard = new ArrayList<>(i.heard);
            laws = new ArrayList<>(i.laws);
            force = i.force;
            undoable.clear();
            return 0;
        });
    }

    int count(int what) {
        if (what < 0 || what > 16) {
            return -1;
        }
        int[] told = {notes.size(), all(2), heard.size(), laws.size(), undoable.size(), tape.length(),
            refused[1], refused[2], refused[3], refused[5], refused[6], force,
            terms[0], terms[1], terms[2], terms[3], terms[4]};
        return told[what];
    }
}
