import java.util.Arrays;

/** A counterpoint desk: a second voice is set against a told one; ../shared/DOC.md says what each method promises. */
public final class CounterDesk {
    public static final int NONE = -1;

    private static final int NO_NUMBER = -1;
    private static final int NO_SUCH = -2;
    private static final int CANNOT = -3;
    private static final int NO_ROOM = -5;
    private static final int BAD_TEXT = -6;

    /** What at() and canon() tell where NONE could be an answer. */
    private static final int NOWHERE = -1000;

    private static final int NOTES = 12;
    private static final int PITCHES = 25;
    private static final int TAPE_BYTES = 400;
    private static final int FED_BYTES = 20;
    private static final int HEARD = 6;
    private static final int LAWS = 6;
    private static final int UNDOABLE = 16;
    private static final int IMAGES = 2;
    private static final int MOST_COSTS = 999;
    private static final int MOST_EARNS = 99;
    private static final int MOST_NOTES_OF_FEW = 99;
    private static final int MOST_FEW = 20;
    private static final int MOST_SEED = 1_000_000;
    private static final int MOST_WEEKS = 60;
    private static final int LEAST_HEARD = -24;
    private static final int MOST_HEARD = 999;
    private static final int OCTAVE = 12;
    private static final long ALL_PARTS = 1_000_000_000_000L;

    private static final int DAY = 0;
    private static final int SLIPS = 1;
    private static final int MOOD = 2;
    private static final int LOW = 3;
    private static final int HIGH = 4;
    private static final int TERMS = 5;
    private static final int LAST_DAY = 999;
    private static final int[] MOST_OF_TERM = {LAST_DAY, 10, 9, 24, 24};

    private static final int FACT_APART = 0;
    private static final int FACT_LEAP = 1;
    private static final int FACT_COSTS = 2;
    private static final int FACTS = 4;

    /** Kinds of CLAUSES of a LAW; all(what) numbers them alike. */
    private static final int COSTS = 0;
    private static final int EARNS = 1;
    private static final int BARS = 2;

    /** Kinds of CLAUSES of ORDERS; undo() tells them by these numbers. */
    private static final int SET = 0;
    private static final int SHIFT = 1;
    private static final int SWAP = 2;
    private static final int PASS = 3;

    private static final int CLAUSES = 12;
    private static final int PARTS = 50;
    private static final int BRACKETS = 8;
    private static final int MOST_NUMBER = 1000;
    private static final int MOST_TIMES = 20;

    /** The pieces of code that each CLAUSE has; a piece may be empty. */
    private static final int PIECES = 3;
    private static final int FIRST_SUM = 0;
    private static final int SECOND_SUM = 1;
    private static final int TEST = 2;

    private static final int OP_NUMBER = 0;
    private static final int OP_WORD = 1;
    private static final int OP_NOT = 2;
    private static final int OP_OR = 3;
    private static final int OP_AND = 4;
    private static final int OP_ADD = 5;
    private static final int OP_LESS_BY = 6;
    private static final int OP_TIMES = 7;
    private static final int OP_DIVIDE = 8;
    private static final int OP_LEFT = 9;
    private static final int OP_BELOW = 10;
    private static final int OP_ABOVE = 11;
    private static final int OP_SAME = 12;

    private static final int SUM_LIMIT = 1_000_000_000;
    /** Beyond every SUM, so that no SUM can be taken for it. */
    private static final int BROKEN = -2_000_000_000;

    /** Words of LAWS, by where their values stand. */
    private static final int LAW_PLACE = 0;
    private static final int LAW_HERE = 1;
    private static final int LAW_UNDER = 2;
    private static final int LAW_APART = 3;
    private static final int LAW_AHEAD = 4;
    private static final int LAW_LEAP = 5;
    private static final int LAW_MOVES = 6;
    private static final int LAW_LAST = 7;
    private static final int LAW_DAY = 8;
    private static final int LAW_MOOD = 9;
    private static final int LAW_WORDS = 10;

    /** Words of ORDERS, by where their values stand; "here" and "under" have one value a NOTE. */
    private static final int ORDER_DAY = 0;
    private static final int ORDER_DONE = 1;
    private static final int ORDER_LATEST = 2;
    private static final int ORDER_BARRED = 3;
    private static final int ORDER_ALL = 4;
    private static final int ORDER_HERE = 5;
    private static final int ORDER_UNDER = ORDER_HERE + NOTES;
    private static final int ORDER_WORDS = ORDER_UNDER + NOTES;

    private final Board board;
    private final Judge judge;
    private final Clerk clerk;
    private final Paper paper;
    private final Draws draws;
    private final Tape tape;
    private final Reader reader;
    private final Board[] images;
    private final boolean[] imageKept;
    private final int[] refused;
    private final long[] slipped;
    private int blots;
    private int fault;
    private int status;

    public CounterDesk() {
        board = new Board();
        judge = new Judge();
        clerk = new Clerk(board, judge);
        paper = new Paper(judge);
        draws = new Draws();
        tape = new Tape();
        reader = new Reader();
        images = new Board[IMAGES];
        for (int k = 0; k < IMAGES; k++) {
            images[k] = new Board();
        }
        imageKept = new boolean[IMAGES];
        refused = new int[-BAD_TEXT];
        slipped = new long[MOST_FEW];
        fault = NONE;
    }

    public int note(int under, int here) {
        if (!isPitch(under) || !isPitch(here)) {
            return answer(NO_NUMBER);
        }
        if (!board.add(under, here)) {
            return answer(NO_ROOM);
        }
        clerk.trail.length = 0;
        return answer(board.notes - 1);
    }

    public int of(int note, int what) {
        if (!board.has(note)) {
            return NONE;
        }
        switch (what) {
            case 0:
                return board.under[note];
            case 1:
                return board.here[note];
            case 2:
                return judge.weigh(board, note, COSTS);
            case 3:
                return judge.weigh(board, note, EARNS);
            case 4:
                return judge.weigh(board, note, BARS);
            default:
                return NONE;
        }
    }

    public int at(int note, int what) {
        if (!board.has(note) || what < FACT_APART || what > FACT_LEAP) {
            return NOWHERE;
        }
        return judge.fact(board, note, what);
    }

    public int all(int what) {
        if (what < COSTS || what > BARS) {
            return NONE;
        }
        return judge.total(board, what);
    }

    public int terms(int what, int value) {
        if (what < 0 || what >= TERMS || value < 0 || value > MOST_OF_TERM[what]) {
            return answer(NO_NUMBER);
        }
        int was = board.terms[what];
        board.terms[what] = value;
        clerk.trail.length = 0;
        return answer(was);
    }

    public int feed(int a, int b, int c, int d, int e) {
        if (tape.length + FED_BYTES > TAPE_BYTES) {
            return NONE;
        }
        tape.take(a);
        tape.take(b);
        tape.take(c);
        tape.take(d);
        tape.take(e);
        return tape.length;
    }

    public int end(int n) {
        if (n < 0 || n > tape.length) {
            return NONE;
        }
        tape.length = n;
        return n;
    }

    public int row() {
        if (tape.length == 0) {
            return answer(BAD_TEXT);
        }
        int came = 0;
        blots = 0;
        for (int at = 0; at < tape.length; at += 2) {
            if (at + 1 < tape.length && board.add(tape.bytes[at], tape.bytes[at + 1])) {
                came++;
            } else {
                blots++;
            }
        }
        tape.length = 0;
        clerk.trail.length = 0;
        return answer(came);
    }

    public int blots() {
        return blots;
    }

    public int law() {
        if (board.lawCount >= LAWS) {
            tape.length = 0;
            return answer(NO_ROOM);
        }
        fault = reader.read(tape, true);
        tape.length = 0;
        if (fault != NONE) {
            return answer(BAD_TEXT);
        }
        board.laws[board.lawCount] = new Text(reader.draft);
        board.lawCount++;
        return answer(board.lawCount - 1);
    }

    public int orders() {
        fault = reader.read(tape, false);
        tape.length = 0;
        if (fault != NONE) {
            clerk.stopped = NONE;
            return answer(BAD_TEXT);
        }
        return answer(clerk.carryOut(reader.draft));
    }

    public int fault() {
        return fault;
    }

    public int stopped() {
        return clerk.stopped;
    }

    public int force(int law) {
        if (law != NONE && !board.hasLaw(law)) {
            return answer(NO_SUCH);
        }
        int was = board.force;
        board.force = law;
        // NONE may be what was, and is no refusal then.
        answer(0);
        return was;
    }

    public int set(int note, int pitch) {
        return answer(clerk.moveHere(note, pitch));
    }

    public int shift(int note, int pitch) {
        return answer(clerk.moveUnder(note, pitch));
    }

    public int swap() {
        return answer(clerk.exchange());
    }

    public int pass() {
        return answer(clerk.nextDay());
    }

    public int undo() {
        return answer(clerk.takeBack());
    }

    public int best(int i) {
        if (i != NONE && !board.has(i)) {
            return NONE;
        }
        int least = paper.leastCosts(board, board.lawInForce());
        return least == NONE || i == NONE ? least : paper.voice(board, i);
    }

    public int between(int p, int q) {
        if (board.notes == 0) {
            return NONE;
        }
        return paper.leastBetween(board, board.lawInForce(), p, q);
    }

    public int richest() {
        return paper.mostEarned(board, board.lawInForce());
    }

    public long ways() {
        return paper.howMany(board, board.lawInForce());
    }

    public int mend(int i) {
        if (i != NONE && !board.has(i)) {
            return NONE;
        }
        int least = paper.leastMended(board, board.lawInForce());
        return least == NONE || i == NONE ? least : paper.voice(board, i);
    }

    public int compass(int what) {
        if (what < 0 || what > 1) {
            return NONE;
        }
        int width = paper.narrowest(board, board.lawInForce());
        return width == NONE || what == 0 ? width : paper.narrowLow;
    }

    public int cheapest(int note, int what) {
        if (!board.has(note) || what < 0 || what > 1) {
            return NONE;
        }
        int pitch = paper.cheapestUnder(board, note);
        return pitch == NONE || what == 0 ? pitch : paper.cheapestCosts;
    }

    public int canon(int d, int i) {
        if (d < 1 || d >= board.notes || i < NONE) {
            return NOWHERE;
        }
        int found = 0;
        for (int h = 1 - PITCHES; h < PITCHES; h++) {
            if (!judge.goesWithItself(board, d, h)) {
                continue;
            }
            if (found == i) {
                return h;
            }
            found++;
        }
        return i == NONE ? found : NOWHERE;
    }

    public int parallels(int a) {
        if (a < 0 || a >= OCTAVE) {
            return NONE;
        }
        int found = 0;
        for (int i = 1; i < board.notes; i++) {
            boolean alike = board.apart(i) == a && board.apart(i - 1) == a;
            if (alike && board.here[i] != board.here[i - 1]) {
                found |= 1 << i;
            }
        }
        return found;
    }

    public int heard(int fact, int n) {
        if (fact < 0 || fact >= FACTS || n < LEAST_HEARD || n > MOST_HEARD) {
            return answer(NO_NUMBER);
        }
        if (board.heardCount >= HEARD) {
            return answer(NO_ROOM);
        }
        board.heardFacts[board.heardCount] = fact;
        board.heardNumbers[board.heardCount] = n;
        board.heardCount++;
        return answer(board.heardCount);
    }

    public int forget() {
        int was = board.heardCount;
        board.heardCount = 0;
        return was;
    }

    public int canBe() {
        return judge.candidates(board);
    }

    public int listen(int what) {
        int left = judge.candidates(board);
        if (left == 0 || what < 0 || what > 1) {
            return NONE;
        }
        int fact = 0;
        int fewest = judge.mostAlike(board, left, 0);
        for (int f = 1; f < FACTS; f++) {
            int most = judge.mostAlike(board, left, f);
            if (most < fewest) {
                fewest = most;
                fact = f;
            }
        }
        return what == 0 ? fact : fewest;
    }

    public long few(int k, int n) {
        if (k < 1 || k > MOST_FEW || n < 0 || n > MOST_NOTES_OF_FEW) {
            return NONE;
        }
        int slips = board.terms[SLIPS];
        for (int j = 1; j < k; j++) {
            slipped[j] = 0;
        }
        slipped[0] = ALL_PARTS;
        for (int note = 0; note < n; note++) {
            // From the most slips down, so that each part is still as it was ahead of this note.
            for (int j = k - 1; j >= 0; j--) {
                long oneMore = j > 0 ? slipped[j - 1] * slips / 10 : 0;
                slipped[j] = slipped[j] * (10 - slips) / 10 + oneMore;
            }
        }
        long chance = 0;
        for (int j = 0; j < k; j++) {
            chance += slipped[j];
        }
        return chance;
    }

    public int compare(int law) {
        if (law == NONE) {
            return paper.leastCosts(board, null);
        }
        if (!board.hasLaw(law)) {
            return NONE;
        }
        return paper.leastCosts(board, board.laws[law]);
    }

    public int weeks(int seed, int n) {
        if (seed < 0 || seed > MOST_SEED || n < 1 || n > MOST_WEEKS) {
            return answer(NO_NUMBER);
        }
        if (board.notes == 0) {
            return answer(CANNOT);
        }
        return answer(draws.live(board, judge, seed, n));
    }

    public int drawn(int note, int what) {
        if (!draws.kept || !draws.paper.has(note)) {
            return NONE;
        }
        if (what == 0) {
            return draws.paper.under[note];
        }
        return what == 1 ? draws.paper.here[note] : NONE;
    }

    public int image(int k) {
        if (k < 0 || k >= IMAGES) {
            return answer(NO_NUMBER);
        }
        images[k].copyFrom(board);
        imageKept[k] = true;
        return answer(0);
    }

    public int back(int k) {
        if (k < 0 || k >= IMAGES) {
            return answer(NO_NUMBER);
        }
        if (!imageKept[k]) {
            return answer(NO_SUCH);
        }
        board.copyFrom(images[k]);
        clerk.trail.length = 0;
        return answer(0);
    }

    public int count(int what) {
        if (what >= 12 && what < 12 + TERMS) {
            return board.terms[what - 12];
        }
        switch (what) {
            case 0:
                return board.notes;
            case 1:
                return judge.total(board, BARS);
            case 2:
                return board.heardCount;
            case 3:
                return board.lawCount;
            case 4:
                return clerk.trail.length;
            case 5:
                return tape.length;
            case 6:
                return refusedBy(NO_NUMBER);
            case 7:
                return refusedBy(NO_SUCH);
            case 8:
                return refusedBy(CANNOT);
            case 9:
                return refusedBy(NO_ROOM);
            case 10:
                return refusedBy(BAD_TEXT);
            case 11:
                return board.force;
            default:
                return NONE;
        }
    }

    public int status() {
        return status;
    }

    /** Keeps what a call was REFUSED by, if its answer is below 0, and hands the answer on. */
    private int answer(int told) {
        status = told < 0 ? told : 0;
        int slot = -1 - told;
        if (slot >= 0 && slot < refused.length) {
            refused[slot]++;
        }
        return told;
    }

    private int refusedBy(int why) {
        int slot = -1 - why;
        return slot >= 0 && slot < refused.length ? refused[slot] : 0;
    }

    private static boolean isPitch(int pitch) {
        return pitch >= 0 && pitch < PITCHES;
    }

    /** The TAPE, a number from 0 to 255 each byte. */
    private static final class Tape {
        final int[] bytes = new int[TAPE_BYTES];
        int length;

        void take(int four) {
            for (int shift = 24; shift >= 0 && length < bytes.length; shift -= 8) {
                bytes[length] = (four >> shift) & 255;
                length++;
            }
        }
    }

    /** All that an IMAGE keeps. */
    private static final class Board {
        int notes;
        final int[] under = new int[NOTES];
        final int[] here = new int[NOTES];
        final int[] terms = new int[TERMS];
        int heardCount;
        final int[] heardFacts = new int[HEARD];
        final int[] heardNumbers = new int[HEARD];
        int lawCount;
        final Text[] laws = new Text[LAWS];
        int force;

        Board() {
            terms[SLIPS] = 1;
            terms[HIGH] = PITCHES - 1;
            force = NONE;
        }

        void copyFrom(Board other) {
            notes = other.notes;
            heardCount = other.heardCount;
            lawCount = other.lawCount;
            force = other.force;
            System.arraycopy(other.under, 0, under, 0, NOTES);
            System.arraycopy(other.here, 0, here, 0, NOTES);
            System.arraycopy(other.terms, 0, terms, 0, TERMS);
            System.arraycopy(other.heardFacts, 0, heardFacts, 0, HEARD);
            System.arraycopy(other.heardNumbers, 0, heardNumbers, 0, HEARD);
            for (int i = 0; i < LAWS; i++) {
                laws[i] = other.laws[i];
            }
        }

        boolean has(int note) {
            return note >= 0 && note < notes;
        }

        boolean hasLaw(int law) {
            return law >= 0 && law < lawCount;
        }

        Text lawInForce() {
            return hasLaw(force) ? laws[force] : null;
        }

        /** False if the NOTE can't be, or there is no room for it. */
        boolean add(int underPitch, int herePitch) {
            if (!isPitch(underPitch) || !isPitch(herePitch) || notes >= NOTES) {
                return false;
            }
            under[notes] = underPitch;
            here[notes] = herePitch;
            notes++;
            return true;
        }

        void exchangeAll() {
            for (int i = 0; i < notes; i++) {
                int was = under[i];
                under[i] = here[i];
                here[i] = was;
            }
        }

        /** APART as parallels are told by it: without its sign, modulo 12. */
        int apart(int note) {
            return Math.abs(here[note] - under[note]) % OCTAVE;
        }
    }

    /** What can be undone, the latest last. */
    private static final class Trail {
        final int[] kinds = new int[UNDOABLE];
        final int[] notes = new int[UNDOABLE];
        final int[] pitches = new int[UNDOABLE];
        int length;

        void keep(int kind, int note, int pitch) {
            if (length >= UNDOABLE) {
                dropOldest();
            }
            kinds[length] = kind;
            notes[length] = note;
            pitches[length] = pitch;
            length++;
        }

        void copyFrom(Trail other) {
            length = other.length;
            System.arraycopy(other.kinds, 0, kinds, 0, UNDOABLE);
            System.arraycopy(other.notes, 0, notes, 0, UNDOABLE);
            System.arraycopy(other.pitches, 0, pitches, 0, UNDOABLE);
        }

        private void dropOldest() {
            length = UNDOABLE - 1;
            System.arraycopy(kinds, 1, kinds, 0, length);
            System.arraycopy(notes, 1, notes, 0, length);
            System.arraycopy(pitches, 1, pitches, 0, length);
        }
    }

    /**
     * A TEXT that was read: the code of all pieces behind one another. Piece k of CLAUSE c
     * begins at starts[c * PIECES + k] and ends where the next one begins.
     */
    private static final class Text {
        int clauses;
        int length;
        /** Whether a word asks how the NOTE ahead is HERE. */
        boolean looksBack;
        final int[] kinds;
        final int[] times;
        final int[] starts;
        final int[] ops;
        final int[] args;

        Text() {
            kinds = new int[CLAUSES];
            times = new int[CLAUSES];
            starts = new int[CLAUSES * PIECES + 1];
            // No TOKEN makes more than one step, and no TAPE has more TOKENS than bytes.
            ops = new int[TAPE_BYTES];
            args = new int[TAPE_BYTES];
        }

        Text(Text draft) {
            clauses = draft.clauses;
            length = draft.length;
            looksBack = draft.looksBack;
            kinds = Arrays.copyOf(draft.kinds, clauses);
            times = Arrays.copyOf(draft.times, clauses);
            starts = Arrays.copyOf(draft.starts, clauses * PIECES + 1);
            ops = Arrays.copyOf(draft.ops, length);
            args = Arrays.copyOf(draft.args, length);
        }

        boolean hasTest(int clause) {
            int piece = clause * PIECES + TEST;
            return starts[piece] < starts[piece + 1];
        }
    }

    /** Reads a TEXT of either language. Where a method answers false, the TOKEN at hand is the FAULT. */
    private static final class Reader {
        private static final int AT_END = 0;
        private static final int AT_WORD = 1;
        private static final int AT_NUMBER = 2;
        private static final int AT_SIGN = 3;

        final Text draft = new Text();
        private final int[] bytes = new int[TAPE_BYTES];
        private int length;
        private boolean isLaw;
        private int kind;
        private int start;
        private int next;
        /** The number that the TOKEN is, or the byte that it is. */
        private int value;
        private int parts;

        /** The FAULT, NONE without one; draft is what was read then. */
        int read(Tape tape, boolean asLaw) {
            System.arraycopy(tape.bytes, 0, bytes, 0, TAPE_BYTES);
            length = tape.length;
            isLaw = asLaw;
            next = 0;
            parts = 0;
            draft.clauses = 0;
            draft.length = 0;
            draft.looksBack = false;
            draft.starts[0] = 0;
            advance();
            for (int c = 0; c < CLAUSES; c++) {
                draft.clauses = c + 1;
                draft.times[c] = 1;
                if (!(isLaw ? lawClause(c) : orderClause(c)) || !condition(c)) {
                    return start;
                }
                if (kind == AT_END) {
                    return NONE;
                }
                if (!takeSign(';')) {
                    return start;
                }
            }
            return start;
        }

        private void advance() {
            int at = next;
            while (at < length && bytes[at] == ' ') {
                at++;
            }
            start = at;
            value = 0;
            if (at >= length) {
                kind = AT_END;
            } else if (isLetter(bytes[at])) {
                kind = AT_WORD;
                while (at < length && isLetter(bytes[at])) {
                    at++;
                }
            } else if (isDigit(bytes[at])) {
                kind = AT_NUMBER;
                while (at < length && isDigit(bytes[at])) {
                    // Cut just beyond what any NUMBER may be, so that long rows of digits stay too much.
                    value = Math.min(value * 10 + bytes[at] - '0', MOST_NUMBER + 1);
                    at++;
                }
            } else {
                kind = AT_SIGN;
                value = bytes[at];
                at++;
            }
            next = at;
        }

        private static boolean isLetter(int b) {
            return b >= 'a' && b <= 'z';
        }

        private static boolean isDigit(int b) {
            return b >= '0' && b <= '9';
        }

        private boolean isSign(char sign) {
            return kind == AT_SIGN && value == sign;
        }

        private boolean isWord(String word) {
            if (kind != AT_WORD || next - start != word.length()) {
                return false;
            }
            for (int i = 0; i < word.length(); i++) {
                if (bytes[start + i] != word.charAt(i)) {
                    return false;
                }
            }
            return true;
        }

        /** Takes the word, if it is at hand. */
        private boolean takeWord(String word) {
            boolean is = isWord(word);
            if (is) {
                advance();
            }
            return is;
        }

        private boolean takeSign(char sign) {
            boolean is = isSign(sign);
            if (is) {
                advance();
            }
            return is;
        }

        private boolean lawClause(int c) {
            if (takeWord("bars")) {
                draft.kinds[c] = BARS;
            } else {
                if (takeWord("costs")) {
                    draft.kinds[c] = COSTS;
                } else if (takeWord("earns")) {
                    draft.kinds[c] = EARNS;
                } else {
                    return false;
                }
                if (!sum(0)) {
                    return false;
                }
            }
            endPiece(c, FIRST_SUM);
            endPiece(c, SECOND_SUM);
            return true;
        }

        private boolean orderClause(int c) {
            if (takeWord("swap")) {
                draft.kinds[c] = SWAP;
                endPiece(c, FIRST_SUM);
            } else if (takeWord("pass")) {
                draft.kinds[c] = PASS;
                endPiece(c, FIRST_SUM);
            } else {
                if (takeWord("set")) {
                    draft.kinds[c] = SET;
                } else if (takeWord("shift")) {
                    draft.kinds[c] = SHIFT;
                } else {
                    return false;
                }
                if (!sum(0)) {
                    return false;
                }
                endPiece(c, FIRST_SUM);
                if (!takeWord("to") || !sum(0)) {
                    return false;
                }
            }
            endPiece(c, SECOND_SUM);
            return howOften(c);
        }

        private boolean howOften(int c) {
            if (!takeWord("times")) {
                return true;
            }
            if (kind != AT_NUMBER || value < 1 || value > MOST_TIMES) {
                return false;
            }
            draft.times[c] = value;
            advance();
            return true;
        }

        private boolean condition(int c) {
            if (takeWord("if") && !test(0)) {
                return false;
            }
            endPiece(c, TEST);
            return true;
        }

        private void endPiece(int c, int piece) {
            draft.starts[c * PIECES + piece + 1] = draft.length;
        }

        private boolean test(int depth) {
            if (!both(depth)) {
                return false;
            }
            for (int i = 0; i < TAPE_BYTES && takeWord("or"); i++) {
                int jump = step(OP_OR, 0);
                if (!both(depth)) {
                    return false;
                }
                draft.args[jump] = draft.length;
            }
            return true;
        }

        private boolean both(int depth) {
            if (!plain(depth)) {
                return false;
            }
            for (int i = 0; i < TAPE_BYTES && takeWord("and"); i++) {
                int jump = step(OP_AND, 0);
                if (!plain(depth)) {
                    return false;
                }
                draft.args[jump] = draft.length;
            }
            return true;
        }

        private boolean plain(int depth) {
            boolean turned = false;
            // Not by recursion: a TAPE has room for a hundred "not".
            for (int i = 0; i < TAPE_BYTES && takeWord("not"); i++) {
                turned = !turned;
            }
            if (isSign('(')) {
                if (depth >= BRACKETS) {
                    return false;
                }
                advance();
                if (!test(depth + 1) || !takeSign(')')) {
                    return false;
                }
            } else {
                if (!sum(depth)) {
                    return false;
                }
                int op = isSign('<') ? OP_BELOW : isSign('>') ? OP_ABOVE : OP_SAME;
                if (op == OP_SAME && !isSign('=')) {
                    return false;
                }
                advance();
                if (!sum(depth)) {
                    return false;
                }
                step(op, 0);
            }
            if (turned) {
                step(OP_NOT, 0);
            }
            return true;
        }

        private boolean sum(int depth) {
            if (!term(depth)) {
                return false;
            }
            for (int i = 0; i < TAPE_BYTES; i++) {
                int op;
                if (takeSign('+')) {
                    op = OP_ADD;
                } else if (takeSign('-')) {
                    op = OP_LESS_BY;
                } else {
                    return true;
                }
                if (!term(depth)) {
                    return false;
                }
                step(op, 0);
            }
            return true;
        }

        private boolean term(int depth) {
            if (!part(depth)) {
                return false;
            }
            for (int i = 0; i < TAPE_BYTES; i++) {
                int op;
                if (takeSign('*')) {
                    op = OP_TIMES;
                } else if (takeSign('/')) {
                    op = OP_DIVIDE;
                } else if (takeSign('%')) {
                    op = OP_LEFT;
                } else {
                    return true;
                }
                if (!part(depth)) {
                    return false;
                }
                step(op, 0);
            }
            return true;
        }

        private boolean part(int depth) {
            if (isSign('[')) {
                if (depth >= BRACKETS) {
                    return false;
                }
                advance();
                return sum(depth + 1) && takeSign(']');
            }
            if (parts >= PARTS) {
                return false;
            }
            parts++;
            if (kind == AT_NUMBER) {
                if (value > MOST_NUMBER) {
                    return false;
                }
                step(OP_NUMBER, value);
                advance();
                return true;
            }
            int word = isLaw ? lawWord() : orderWord();
            if (word == NONE) {
                return false;
            }
            advance();
            if (isLaw) {
                draft.looksBack |= word == LAW_AHEAD || word == LAW_LEAP;
            } else if (word >= ORDER_HERE) {
                if (kind != AT_NUMBER || value >= NOTES) {
                    return false;
                }
                word += value;
                advance();
            }
            step(OP_WORD, word);
            return true;
        }

        /** Where the value of the word at hand stands; NONE if LAWS have no such word. */
        private int lawWord() {
            if (isWord("place")) {
                return LAW_PLACE;
            }
            if (isWord("here")) {
                return LAW_HERE;
            }
            if (isWord("under")) {
                return LAW_UNDER;
            }
            if (isWord("apart")) {
                return LAW_APART;
            }
            if (isWord("ahead")) {
                return LAW_AHEAD;
            }
            if (isWord("leap")) {
                return LAW_LEAP;
            }
            if (isWord("moves")) {
                return LAW_MOVES;
            }
            if (isWord("last")) {
                return LAW_LAST;
            }
            if (isWord("day")) {
                return LAW_DAY;
            }
            return isWord("mood") ? LAW_MOOD : NONE;
        }

        /** Where the value of the word at hand stands (of NOTE 0, if it is of NOTES); NONE if ORDERS have no such word. */
        private int orderWord() {
            if (isWord("day")) {
                return ORDER_DAY;
            }
            if (isWord("done")) {
                return ORDER_DONE;
            }
            if (isWord("latest")) {
                return ORDER_LATEST;
            }
            if (isWord("barred")) {
                return ORDER_BARRED;
            }
            if (isWord("all")) {
                return ORDER_ALL;
            }
            if (isWord("here")) {
                return ORDER_HERE;
            }
            return isWord("under") ? ORDER_UNDER : NONE;
        }

        /** Writes a step of code: where it stands. */
        private int step(int op, int arg) {
            int at = Math.min(draft.length, TAPE_BYTES - 1);
            draft.ops[at] = op;
            draft.args[at] = arg;
            draft.length = at + 1;
            return at;
        }
    }

    /** Works out the pieces of a TEXT. */
    private static final class Machine {
        /** No piece has more values at hand at once than it has PARTS. */
        private final int[] stack = new int[PARTS + 1];

        /** What the piece of the CLAUSE comes to (a TEST: 1, 0), or BROKEN. */
        int workOut(Text text, int clause, int piece, int[] words) {
            int begin = clause * PIECES + piece;
            int end = text.starts[begin + 1];
            int top = -1;
            for (int at = text.starts[begin]; at < end; at++) {
                int op = text.ops[at];
                int arg = text.args[at];
                if (op == OP_NUMBER || op == OP_WORD) {
                    top++;
                    if (top >= stack.length) {
                        return BROKEN;
                    }
                    stack[top] = op == OP_NUMBER ? arg : words[arg];
                } else if (top < 0) {
                    return BROKEN;
                } else if (op == OP_NOT) {
                    stack[top] = 1 - stack[top];
                } else if (op == OP_OR || op == OP_AND) {
                    boolean decided = (stack[top] != 0) == (op == OP_OR);
                    if (decided) {
                        at = Math.max(at, arg - 1);
                    } else {
                        top--;
                    }
                } else {
                    top--;
                    if (top < 0) {
                        return BROKEN;
                    }
                    stack[top] = joined(op, stack[top], stack[top + 1]);
                    if (stack[top] == BROKEN) {
                        return BROKEN;
                    }
                }
            }
            return top == 0 ? stack[0] : BROKEN;
        }

        private static int joined(int op, long a, long b) {
            if ((op == OP_DIVIDE || op == OP_LEFT) && b == 0) {
                return BROKEN;
            }
            long made;
            switch (op) {
                case OP_ADD:
                    made = a + b;
                    break;
                case OP_LESS_BY:
                    made = a - b;
                    break;
                case OP_TIMES:
                    made = a * b;
                    break;
                case OP_DIVIDE:
                    made = a / b;
                    break;
                case OP_LEFT:
                    made = a % b;
                    break;
                case OP_BELOW:
                    made = a < b ? 1 : 0;
                    break;
                case OP_ABOVE:
                    made = a > b ? 1 : 0;
                    break;
                default:
                    made = a == b ? 1 : 0;
                    break;
            }
            return made > SUM_LIMIT || made < -SUM_LIMIT ? BROKEN : (int) made;
        }
    }

    /** Asks a LAW of one NOTE at a time: place() and sound() say which, told() what the LAW tells of it. */
    private static final class Judge {
        private final Machine machine = new Machine();
        private final int[] words = new int[LAW_WORDS];
        private boolean isFirst;
        private int underAhead;

        /** The NOTE of the board, whatever is HERE; the one numbered first has none ahead. */
        void place(Board b, int note, int first) {
            isFirst = note <= first;
            underAhead = isFirst ? 0 : b.under[note - 1];
            words[LAW_PLACE] = note;
            words[LAW_UNDER] = b.under[note];
            words[LAW_MOVES] = isFirst ? 0 : b.under[note] - underAhead;
            words[LAW_LAST] = note == b.notes - 1 ? 1 : 0;
            words[LAW_DAY] = b.terms[DAY];
            words[LAW_MOOD] = b.terms[MOOD];
        }

        /** How the placed NOTE is HERE, and how the one ahead of it is, if there is one. */
        void sound(int here, int hereAhead) {
            words[LAW_HERE] = here;
            words[LAW_APART] = here - words[LAW_UNDER];
            words[LAW_AHEAD] = isFirst ? 0 : hereAhead - underAhead;
            words[LAW_LEAP] = isFirst ? 0 : here - hereAhead;
        }

        /** What the LAW's latest CLAUSE of the kind tells that HOLDS; NONE if none HOLDS. */
        int told(Text law, int kind) {
            for (int c = law == null ? -1 : law.clauses - 1; c >= 0; c--) {
                if (law.kinds[c] != kind) {
                    continue;
                }
                if (law.hasTest(c) && machine.workOut(law, c, TEST, words) != 1) {
                    continue;
                }
                if (kind == BARS) {
                    return 1;
                }
                int sum = machine.workOut(law, c, FIRST_SUM, words);
                if (sum != BROKEN) {
                    return Math.max(0, Math.min(sum, kind == COSTS ? MOST_COSTS : MOST_EARNS));
                }
            }
            return NONE;
        }

        /** What was told, or what stands without. */
        int orElse(int told, int kind) {
            if (told != NONE) {
                return told;
            }
            if (kind == COSTS) {
                return Math.abs(words[LAW_LEAP]);
            }
            return kind == EARNS ? 1 : 0;
        }

        /** What the NOTE, as it is HERE, COSTS or EARNS, or whether it is BARRED (1, 0). */
        int weigh(Board b, int note, int kind) {
            place(b, note, 0);
            sound(b.here[note], note > 0 ? b.here[note - 1] : 0);
            return orElse(told(b.lawInForce(), kind), kind);
        }

        int total(Board b, int kind) {
            Text law = b.lawInForce();
            int sum = 0;
            for (int i = 0; i < b.notes; i++) {
                place(b, i, 0);
                sound(b.here[i], i > 0 ? b.here[i - 1] : 0);
                sum += orElse(told(law, kind), kind);
            }
            return sum;
        }

        int fact(Board b, int note, int fact) {
            if (fact == FACT_APART) {
                return b.here[note] - b.under[note];
            }
            if (fact == FACT_LEAP) {
                return note > 0 ? b.here[note] - b.here[note - 1] : 0;
            }
            return weigh(b, note, fact == FACT_COSTS ? COSTS : EARNS);
        }

        /** The NOTES that IT CAN BE, as bits. */
        int candidates(Board b) {
            int left = 0;
            for (int i = 0; i < b.notes; i++) {
                boolean fits = true;
                for (int k = 0; k < b.heardCount && fits; k++) {
                    fits = fact(b, i, b.heardFacts[k]) == b.heardNumbers[k];
                }
                if (fits) {
                    left |= 1 << i;
                }
            }
            return left;
        }

        /** The most of the NOTES left that are alike by the FACT. */
        int mostAlike(Board b, int left, int fact) {
            int most = 0;
            for (int i = 0; i < b.notes; i++) {
                if ((left >> i & 1) == 0) {
                    continue;
                }
                int alike = 0;
                int mine = fact(b, i, fact);
                for (int j = 0; j < b.notes; j++) {
                    if ((left >> j & 1) == 1 && fact(b, j, fact) == mine) {
                        alike++;
                    }
                }
                most = Math.max(most, alike);
            }
            return most;
        }

        /** Whether the told voice goes with itself d NOTES later at the height. */
        boolean goesWithItself(Board b, int d, int height) {
            Text law = b.lawInForce();
            int hereAhead = 0;
            for (int i = d; i < b.notes; i++) {
                int here = b.under[i - d] + height;
                if (!isPitch(here)) {
                    return false;
                }
                place(b, i, d);
                sound(here, hereAhead);
                if (told(law, BARS) != NONE) {
                    return false;
                }
                hereAhead = here;
            }
            return true;
        }
    }

    /** Does what set(), shift(), swap(), pass(), undo() ask, and ORDERS by these. */
    private static final class Clerk {
        final Trail trail = new Trail();
        int stopped = NONE;
        private final Board board;
        private final Judge judge;
        private final Machine machine = new Machine();
        private final Board boardAhead = new Board();
        private final Trail trailAhead = new Trail();
        private final int[] words = new int[ORDER_WORDS];
        private int done;
        private int latest;

        Clerk(Board b, Judge j) {
            board = b;
            judge = j;
        }

        int moveHere(int note, int pitch) {
            return move(board.here, note, pitch, SET);
        }

        int moveUnder(int note, int pitch) {
            return move(board.under, note, pitch, SHIFT);
        }

        private int move(int[] voice, int note, int pitch, int kind) {
            if (!isPitch(pitch)) {
                return NO_NUMBER;
            }
            if (!board.has(note)) {
                return NO_SUCH;
            }
            int was = voice[note];
            if (was == pitch) {
                return CANNOT;
            }
            voice[note] = pitch;
            trail.keep(kind, note, was);
            return was;
        }

        int exchange() {
            if (board.notes == 0) {
                return CANNOT;
            }
            board.exchangeAll();
            trail.keep(SWAP, 0, 0);
            return board.notes;
        }

        int nextDay() {
            if (board.terms[DAY] >= LAST_DAY) {
                return CANNOT;
            }
            int barred = judge.total(board, BARS);
            board.terms[DAY]++;
            trail.keep(PASS, 0, 0);
            return barred;
        }

        int takeBack() {
            if (trail.length <= 0) {
                return CANNOT;
            }
            int at = trail.length - 1;
            trail.length = at;
            switch (trail.kinds[at]) {
                case SET:
                    board.here[trail.notes[at]] = trail.pitches[at];
                    break;
                case SHIFT:
                    board.under[trail.notes[at]] = trail.pitches[at];
                    break;
                case SWAP:
                    board.exchangeAll();
                    break;
                default:
                    board.terms[DAY]--;
                    break;
            }
            return trail.kinds[at];
        }

        /** How many were run; CANNOT, and all is as it was, if one can't be. */
        int carryOut(Text orders) {
            boardAhead.copyFrom(board);
            trailAhead.copyFrom(trail);
            stopped = NONE;
            done = 0;
            latest = NONE;
            for (int c = 0; c < orders.clauses; c++) {
                for (int t = 0; t < orders.times[c]; t++) {
                    gatherWords();
                    if (orders.hasTest(c) && machine.workOut(orders, c, TEST, words) != 1) {
                        continue;
                    }
                    if (!runOnce(orders, c)) {
                        stopped = c;
                        board.copyFrom(boardAhead);
                        trail.copyFrom(trailAhead);
                        return CANNOT;
                    }
                    done++;
                }
            }
            return done;
        }

        private void gatherWords() {
            words[ORDER_DAY] = board.terms[DAY];
            words[ORDER_DONE] = done;
            words[ORDER_LATEST] = latest;
            words[ORDER_BARRED] = judge.total(board, BARS);
            words[ORDER_ALL] = judge.total(board, COSTS);
            for (int i = 0; i < NOTES; i++) {
                words[ORDER_HERE + i] = board.has(i) ? board.here[i] : NONE;
                words[ORDER_UNDER + i] = board.has(i) ? board.under[i] : NONE;
            }
        }

        private boolean runOnce(Text orders, int c) {
            int kind = orders.kinds[c];
            if (kind == SWAP) {
                return exchange() >= 0;
            }
            if (kind == PASS) {
                latest = nextDay();
                return latest >= 0;
            }
            int note = machine.workOut(orders, c, FIRST_SUM, words);
            int pitch = machine.workOut(orders, c, SECOND_SUM, words);
            if (note == BROKEN || pitch == BROKEN) {
                return false;
            }
            return (kind == SET ? moveHere(note, pitch) : moveUnder(note, pitch)) >= 0;
        }
    }

    /**
     * What one kind of a LAW's CLAUSES tells of each NOTE, at each PITCH, behind each PITCH of the NOTE
     * ahead. A NOTE's page is kept as long as all that the LAW could ask of it but these two PITCHES is
     * the same, since writing it is by far the dearest step of every question about VOICES.
     */
    private static final class Sheet {
        /** By NOTE, then by PITCH of the NOTE ahead times PITCHES and PITCH HERE; the first NOTE has row 0 alone. */
        final int[][] pages = new int[NOTES][PITCHES * PITCHES];
        private final int kind;
        private final long[] keys = new long[NOTES];
        private final Text[] laws = new Text[NOTES];

        Sheet(int clauseKind) {
            kind = clauseKind;
            for (int i = 0; i < NOTES; i++) {
                keys[i] = NONE;
            }
        }

        void renew(Board b, int note, Text law, Judge judge) {
            long key = keyOf(b, note);
            if (keys[note] == key && laws[note] == law) {
                return;
            }
            keys[note] = key;
            laws[note] = law;
            judge.place(b, note, 0);
            int[] page = pages[note];
            int aheads = note == 0 ? 1 : PITCHES;
            for (int h = 0; h < PITCHES; h++) {
                int told = NONE;
                for (int p = 0; p < aheads; p++) {
                    judge.sound(h, p);
                    if (p == 0 || (law != null && law.looksBack)) {
                        told = judge.told(law, kind);
                    }
                    page[p * PITCHES + h] = judge.orElse(told, kind);
                }
            }
        }

        private static long keyOf(Board b, int note) {
            long key = b.under[note];
            key = key * PITCHES + (note > 0 ? b.under[note - 1] : 0);
            key = key * 2 + (note == b.notes - 1 ? 1 : 0);
            key = key * (LAST_DAY + 1) + b.terms[DAY];
            return key * (MOST_OF_TERM[MOOD] + 1) + b.terms[MOOD];
        }
    }

    /** Questions about VOICES, answered from the last NOTE back to the first. */
    private static final class Paper {
        /** Beyond all that VOICES can come to: there is none. */
        private static final int FAR = 1_000_000;
        /** To weigh by how many NOTES differ; COSTS and EARNS are the other aims. */
        private static final int MENDS = 3;

        int narrowLow;
        int cheapestCosts;
        private final Judge judge;
        private final Sheet costs = new Sheet(COSTS);
        private final Sheet earns = new Sheet(EARNS);
        private final Sheet bars = new Sheet(BARS);
        /** By NOTE and PITCH of the NOTE ahead: the least of this and all behind it, and the first PITCH for that. */
        private final int[][] least = new int[NOTES][PITCHES];
        private final int[][] pick = new int[NOTES][PITCHES];
        private final long[][] many = new long[NOTES][PITCHES];
        /** By NOTE and PITCH of the NOTE ahead: the PITCHES that are not BARRED, as bits. */
        private final int[][] open = new int[NOTES][PITCHES];
        private final int[] lows = new int[NOTES];
        private final int[] highs = new int[NOTES];
        private final Board trial = new Board();

        Paper(Judge j) {
            judge = j;
        }

        int leastCosts(Board b, Text law) {
            keepWithin(b);
            return leastOf(b, law, COSTS);
        }

        int leastMended(Board b, Text law) {
            keepWithin(b);
            return leastOf(b, law, MENDS);
        }

        int mostEarned(Board b, Text law) {
            keepWithin(b);
            int missed = leastOf(b, law, EARNS);
            return missed == NONE ? NONE : MOST_EARNS * b.notes - missed;
        }

        int leastBetween(Board b, Text law, int p, int q) {
            int last = b.notes - 1;
            if (last < 0 || Math.min(p, q) < b.terms[LOW] || Math.max(p, q) > b.terms[HIGH]) {
                return NONE;
            }
            if (last == 0 && p != q) {
                return NONE;
            }
            keepWithin(b);
            lows[0] = p;
            highs[0] = p;
            lows[last] = q;
            highs[last] = q;
            return leastOf(b, law, COSTS);
        }

        /** The PITCH of the NOTE in the first VOICE that the latest question found. */
        int voice(Board b, int note) {
            int pitch = 0;
            for (int i = 0; i <= note && i < b.notes; i++) {
                pitch = pick[i][pitch];
            }
            return pitch;
        }

        long howMany(Board b, Text law) {
            keepWithin(b);
            for (int i = b.notes - 1; i >= 0; i--) {
                bars.renew(b, i, law, judge);
                for (int p = firstAhead(i); p <= lastAhead(i); p++) {
                    long sum = 0;
                    for (int h = lows[i]; h <= highs[i]; h++) {
                        if (bars.pages[i][p * PITCHES + h] == 0) {
                            sum += i + 1 < b.notes ? many[i + 1][h] : 1;
                        }
                    }
                    many[i][p] = sum;
                }
            }
            return b.notes == 0 ? 1 : many[0][0];
        }

        /** How wide COMPASS is, and in narrowLow its LOW. */
        int narrowest(Board b, Text law) {
            int most = b.terms[HIGH];
            int width = NONE;
            markOpen(b, law);
            int high = 0;
            for (int low = b.terms[LOW]; low <= most; low++) {
                // What is too narrow for a LOW is too narrow for the next one, so high need never come down.
                high = Math.max(high, low);
                while (high <= most && !hasVoice(b, low, high)) {
                    high++;
                }
                if (high > most) {
                    break;
                }
                if (width == NONE || high - low < width) {
                    width = high - low;
                    narrowLow = low;
                }
            }
            return width;
        }

        /** The PITCH for the NOTE UNDER, and in cheapestCosts what the BEST COSTS then. */
        int cheapestUnder(Board b, int note) {
            Text law = b.lawInForce();
            int pitch = NONE;
            trial.copyFrom(b);
            for (int u = 0; u < PITCHES; u++) {
                if (u == b.under[note]) {
                    continue;
                }
                trial.under[note] = u;
                int sum = leastCosts(trial, law);
                if (sum != NONE && (pitch == NONE || sum < cheapestCosts)) {
                    pitch = u;
                    cheapestCosts = sum;
                }
            }
            return pitch;
        }

        private void keepWithin(Board b) {
            for (int i = 0; i < NOTES; i++) {
                lows[i] = b.terms[LOW];
                highs[i] = b.terms[HIGH];
            }
        }

        private int firstAhead(int note) {
            return note == 0 ? 0 : lows[note - 1];
        }

        private int lastAhead(int note) {
            return note == 0 ? 0 : highs[note - 1];
        }

        private int leastOf(Board b, Text law, int aim) {
            if (b.notes == 0) {
                return 0;
            }
            for (int i = b.notes - 1; i >= 0; i--) {
                bars.renew(b, i, law, judge);
                if (aim == COSTS) {
                    costs.renew(b, i, law, judge);
                } else if (aim == EARNS) {
                    earns.renew(b, i, law, judge);
                }
                for (int p = firstAhead(i); p <= lastAhead(i); p++) {
                    choose(b, i, p, aim);
                }
            }
            return least[0][0] < FAR ? least[0][0] : NONE;
        }

        private void choose(Board b, int note, int ahead, int aim) {
            int found = FAR;
            int first = lows[note];
            for (int h = lows[note]; h <= highs[note]; h++) {
                int cell = ahead * PITCHES + h;
                if (bars.pages[note][cell] != 0) {
                    continue;
                }
                int sum = note + 1 < b.notes ? least[note + 1][h] : 0;
                if (aim == COSTS) {
                    sum += costs.pages[note][cell];
                } else if (aim == EARNS) {
                    sum += MOST_EARNS - earns.pages[note][cell];
                } else if (h != b.here[note]) {
                    sum++;
                }
                if (sum < found) {
                    found = sum;
                    first = h;
                }
            }
            least[note][ahead] = found;
            pick[note][ahead] = first;
        }

        private void markOpen(Board b, Text law) {
            for (int i = 0; i < b.notes; i++) {
                bars.renew(b, i, law, judge);
                for (int p = 0; p < PITCHES; p++) {
                    int bits = 0;
                    for (int h = 0; h < PITCHES; h++) {
                        if (bars.pages[i][p * PITCHES + h] == 0) {
                            bits |= 1 << h;
                        }
                    }
                    open[i][p] = bits;
                }
            }
        }

        private boolean hasVoice(Board b, int low, int high) {
            int within = (1 << high + 1) - (1 << low);
            int reached = within;
            for (int i = 0; i < b.notes && reached != 0; i++) {
                int next = i == 0 ? open[0][0] : 0;
                for (int p = low; p <= high && i > 0; p++) {
                    if ((reached >> p & 1) == 1) {
                        next |= open[i][p];
                    }
                }
                reached = next & within;
            }
            return reached != 0;
        }
    }

    /** The latest WEEKS. */
    private static final class Draws {
        final Board paper = new Board();
        boolean kept;
        private long s;

        /** How many NOTES were BARRED on all DAYS together. */
        int live(Board b, Judge judge, int seed, int n) {
            paper.copyFrom(b);
            kept = true;
            s = seed;
            int barred = 0;
            for (int k = 0; k < n && paper.terms[DAY] < LAST_DAY; k++) {
                int note = draw(paper.notes);
                int pitch = draw(PITCHES);
                int what = draw(4);
                if (what == 3) {
                    paper.exchangeAll();
                } else if (what == 2 && paper.has(note)) {
                    paper.under[note] = pitch;
                } else if (paper.has(note)) {
                    paper.here[note] = pitch;
                }
                barred += judge.total(paper, BARS);
                paper.terms[DAY]++;
            }
            return barred;
        }

        private int draw(int m) {
            s = (s * 1103 + 12345) % 1_000_003;
            return m > 0 ? (int) (s % m) : 0;
        }
    }
}
