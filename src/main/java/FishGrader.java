import java.util.NoSuchElementException;

/** A simulator of a grading machine on a ship that weighs and sorts fish and fills boxes to a target weight. */
public final class FishGrader {
    public static final int NONE = -1;

    private static final int MAX_BYTES = 1500;
    private static final int MAX_STOPS = 4;
    private static final int MAX_SPECIES = 4;
    private static final int MAX_PLACES = 3;
    private static final int MAX_TEXT_ITEMS = 60;
    private static final int MAX_ITEMS = 80;
    private static final int MAX_SAMPLES = 3;
    private static final int MAX_VOTES = 5;
    private static final int MAX_POOL = 10;
    private static final int MAX_CHANGES = 8;
    private static final int MAX_LOOKAHEAD = 12;

    private static final int MAX_TICKS = 100;
    private static final int MAX_LIMIT_TICKS = 60;
    private static final int MAX_READING = 20000;
    private static final int MAX_REF = 9999;
    private static final int MAX_CONFIDENCE = 99;
    private static final int MAX_LIMIT = 9999;
    private static final int MAX_TARGET = 30000;
    private static final int MAX_QUOTA = 999999;
    private static final int MAX_WEIGHT = 60000;
    private static final int RULES = 3;
    private static final int GREATEST = 0x7fffffff;

    private static final int WAITING = 0;
    private static final int REJECTED = 1;
    private static final int DISCARDED = 2;
    private static final int IN_POOL = 3;
    private static final int IN_OPEN_BOX = 4;
    private static final int IN_CLOSED_BOX = 5;

    private static final int BAD_TOKEN = 1;
    private static final int OUT_OF_BOUNDS = 2;
    private static final int UNKNOWN_SPECIES = 3;
    private static final int REPEATED = 4;
    private static final int TOO_MANY = 5;
    private static final int NO_SPECIES = 6;

    private final byte[] buffer = new byte[MAX_BYTES];
    private int bufferLength = 0;
    private int errorCode = 0;
    private int errorAt = NONE;

    private boolean loaded = false;
    private Setup setup = new Setup();
    private Setup draft = new Setup();
    private State state = new State();
    /** What-if questions and parsing work here, so that the state itself stays as it is. */
    private State scratch = new State();

    private boolean hasSaved = false;
    private final State saved = new State();
    private int changes = 0;
    /** The states before the latest changes; a place is filled when it is first needed, to keep a new object small. */
    private final State[] history = new State[MAX_CHANGES];

    private final StringBuilder written = new StringBuilder();
    private final int[] nextWeights = new int[MAX_LOOKAHEAD];

    public FishGrader() {
    }

    // ---- input

    public int append(int a, int b, int c, int d, int e) {
        if (bufferLength > MAX_BYTES - 20) {
            return NONE;
        }
        appendWord(a);
        appendWord(b);
        appendWord(c);
        appendWord(d);
        appendWord(e);
        return bufferLength;
    }

    private void appendWord(int word) {
        for (int shift = 24; shift >= 0 && bufferLength < MAX_BYTES; shift -= 8) {
            buffer[bufferLength] = (byte) (word >>> shift);
            bufferLength++;
        }
    }

    public int load(int n) throws IndexOutOfBoundsException, IllegalArgumentException {
        if (n < 0 || n > bufferLength) {
            throw new IndexOutOfBoundsException("no such number of bytes");
        }
        bufferLength = 0;
        Parser parser = new Parser(new Tokens(buffer, n), draft, scratch);
        boolean good = parser.parseText();
        errorCode = parser.error;
        errorAt = parser.errorAt;
        if (!good) {
            throw new IllegalArgumentException("the text has an error");
        }
        takeDraft();
        return state.items.count;
    }

    private void takeDraft() {
        Setup oldSetup = setup;
        setup = draft;
        draft = oldSetup;
        State oldState = state;
        state = scratch;
        scratch = oldState;
        loaded = true;
        hasSaved = false;
        changes = 0;
    }

    public int parseError() {
        return errorCode;
    }

    public int errorPosition() {
        return errorAt;
    }

    public int buffered() {
        return bufferLength;
    }

    // ---- items

    public int items() {
        return loaded ? state.items.count : 0;
    }

    public int speciesCount() {
        return loaded ? setup.speciesCount : 0;
    }

    public int weight(int item) throws IllegalStateException, IndexOutOfBoundsException {
        requireItem(item);
        return state.items.weight[item];
    }

    public int score(int item, int species) throws IllegalStateException, IndexOutOfBoundsException {
        requireItem(item);
        requireSpecies(species);
        return state.items.scoreFor(item, species);
    }

    public int speciesOf(int item) throws IllegalStateException, IndexOutOfBoundsException {
        requireItem(item);
        return state.items.species[item];
    }

    public int stateOf(int item) throws IllegalStateException, IndexOutOfBoundsException {
        requireItem(item);
        return state.items.fate[item];
    }

    public int boxOf(int item) throws IllegalStateException, IndexOutOfBoundsException {
        requireItem(item);
        return state.items.box[item];
    }

    public int agreement(int item) throws IllegalStateException, IndexOutOfBoundsException {
        requireItem(item);
        return state.items.clarity(item);
    }

    // ---- boxes

    public int content(int species, int place) throws IllegalStateException, IndexOutOfBoundsException {
        requirePlace(species, place);
        return state.content[species * MAX_PLACES + place];
    }

    public int itemsIn(int species, int place) throws IllegalStateException, IndexOutOfBoundsException {
        requirePlace(species, place);
        return state.items.countInOpenBox(species, place);
    }

    public int closed() {
        return loaded ? state.boxes.count : 0;
    }

    public int closedSpecies(int box) throws IllegalStateException, IndexOutOfBoundsException {
        requireBox(box);
        return state.boxes.species[box];
    }

    public int closedWeight(int box) throws IllegalStateException, IndexOutOfBoundsException {
        requireBox(box);
        return state.boxes.weight[box];
    }

    public int giveaway(int box) throws IllegalStateException, IndexOutOfBoundsException {
        requireBox(box);
        return state.boxes.excess(box);
    }

    public int closedAt(int box) throws IllegalStateException, IndexOutOfBoundsException {
        requireBox(box);
        return state.boxes.closedAt[box];
    }

    public int icedAt(int box) throws IllegalStateException, IndexOutOfBoundsException {
        requireBox(box);
        return state.boxes.icedAt[box];
    }

    public int nextIced(int rank) throws IllegalStateException, IndexOutOfBoundsException {
        requireGrader();
        if (rank < 0 || rank >= state.boxes.count - state.boxes.iced) {
            throw new IndexOutOfBoundsException("no such waiting box");
        }
        return state.boxes.iced + rank;
    }

    public int worstBox(int rank) throws IllegalStateException, IndexOutOfBoundsException {
        requireBox(rank);
        return state.boxes.byExcess(rank);
    }

    // ---- the state

    public int time() {
        return loaded ? state.time : 0;
    }

    public int rule() {
        return loaded ? state.rule : 0;
    }

    public int pooled() {
        return loaded ? state.poolCount : 0;
    }

    public int poolItem(int index) throws IllegalStateException, IndexOutOfBoundsException {
        requirePoolIndex(index);
        return state.pool[index];
    }

    public int ice() {
        return loaded ? state.ice : 0;
    }

    public int iceUsed() {
        return loaded ? state.iceUsed : 0;
    }

    public boolean isStopped(int tick) throws IllegalStateException, IllegalArgumentException {
        requireGrader();
        requireRange(tick, 1, GREATEST);
        return setup.stopsAt(tick);
    }

    public int late() throws IllegalStateException {
        requireGrader();
        return state.countLate(setup);
    }

    public int rejected() {
        return loaded ? state.items.countFate(REJECTED) : 0;
    }

    public int landed(int species) throws IllegalStateException, IndexOutOfBoundsException {
        requireSpecies(species);
        return state.landed[species];
    }

    public int discarded(int species) throws IllegalStateException, IndexOutOfBoundsException {
        requireSpecies(species);
        return state.discarded[species];
    }

    public int quota(int species) throws IllegalStateException, IndexOutOfBoundsException {
        requireSpecies(species);
        return state.quota[species];
    }

    public int target(int species) throws IllegalStateException, IndexOutOfBoundsException {
        requireSpecies(species);
        return state.target[species];
    }

    public int totalGiveaway(int species) throws IllegalStateException, IndexOutOfBoundsException {
        requireSpecies(species);
        return state.boxes.excessOf(species);
    }

    public int earnings(int species) throws IllegalStateException, IndexOutOfBoundsException {
        requireSpecies(species);
        return state.earned(setup, species);
    }

    public int meanGiveaway(int species, boolean denominator) throws IllegalStateException, IndexOutOfBoundsException {
        requireSpecies(species);
        int total = state.boxes.excessOf(species);
        int count = state.boxes.countOf(species);
        if (total == 0 || count == 0) {
            return denominator ? 1 : 0;
        }
        int divisor = commonDivisor(total, count);
        return denominator ? count / divisor : total / divisor;
    }

    private static int commonDivisor(int total, int count) {
        for (int divisor = count; divisor > 1; divisor--) {
            if (count % divisor == 0 && total % divisor == 0) {
                return divisor;
            }
        }
        return 1;
    }

    // ---- what-if questions

    public int closedIn(int n) throws IllegalStateException, IllegalArgumentException {
        requireGrader();
        requireRange(n, 1, MAX_TICKS);
        prepareScratch();
        scratch.run(setup, n);
        return newlyClosed();
    }

    public int giveawayIn(int n) throws IllegalStateException, IllegalArgumentException {
        requireGrader();
        requireRange(n, 1, MAX_TICKS);
        prepareScratch();
        scratch.run(setup, n);
        return newGiveaway();
    }

    public int firstClosed(int species, int n)
            throws IllegalStateException, IndexOutOfBoundsException, IllegalArgumentException {
        requireSpecies(species);
        requireRange(n, 1, MAX_TICKS);
        int before = state.boxes.countOf(species);
        prepareScratch();
        for (int ticks = 1; ticks <= n; ticks++) {
            scratch.tick(setup);
            if (scratch.boxes.countOf(species) > before) {
                return ticks;
            }
        }
        return NONE;
    }

    public int firstLate(int n) throws IllegalStateException, IllegalArgumentException {
        requireGrader();
        requireRange(n, 1, MAX_TICKS);
        int before = state.countLate(setup);
        prepareScratch();
        for (int ticks = 1; ticks <= n; ticks++) {
            scratch.tick(setup);
            if (scratch.countLate(setup) > before) {
                return ticks;
            }
        }
        return NONE;
    }

    public int bestRule(int n) throws IllegalStateException, IllegalArgumentException {
        requireGrader();
        requireRange(n, 1, MAX_TICKS);
        int best = 0;
        long bestSum = 0;
        long bestCount = 0;
        for (int rule = 0; rule < RULES; rule++) {
            prepareScratch();
            scratch.rule = rule;
            scratch.run(setup, n);
            long sum = newGiveaway();
            long count = newlyClosed();
            if (count > 0 && (bestCount == 0 || sum * bestCount < bestSum * count)) {
                best = rule;
                bestSum = sum;
                bestCount = count;
            }
        }
        return best;
    }

    public int bestMove(int amount, int n) throws IllegalStateException, IllegalArgumentException {
        requireGrader();
        requireRange(amount, 1, MAX_QUOTA);
        requireRange(n, 1, MAX_TICKS);
        prepareScratch();
        scratch.run(setup, n);
        int greatest = scratch.earnedByAll(setup);
        int best = NONE;
        for (int from = 0; from < setup.speciesCount; from++) {
            for (int to = 0; to < setup.speciesCount; to++) {
                if (!state.canMoveQuota(from, to, amount)) {
                    continue;
                }
                prepareScratch();
                scratch.shiftQuota(from, to, amount);
                scratch.run(setup, n);
                int sum = scratch.earnedByAll(setup);
                if (sum > greatest) {
                    greatest = sum;
                    best = 10 * from + to;
                }
            }
        }
        return best;
    }

    public int bestLimit(int n) throws IllegalStateException, IllegalArgumentException {
        requireGrader();
        requireRange(n, 1, MAX_LIMIT_TICKS);
        int best = 0;
        int smallest = GREATEST;
        for (int limit = 0; limit <= 1000; limit += 10) {
            prepareScratch();
            scratch.limit = limit;
            scratch.run(setup, n);
            int cost = newGiveaway() - 100 * newlyClosed();
            if (cost < smallest) {
                smallest = cost;
                best = limit;
            }
        }
        return best;
    }

    public int combination(int species, int place) throws IllegalStateException, IndexOutOfBoundsException {
        requirePlace(species, place);
        return state.bestSet(species, place);
    }

    public int lookahead(int species, int place, int k)
            throws IllegalStateException, IndexOutOfBoundsException, IllegalArgumentException {
        requirePlace(species, place);
        requireRange(k, 1, MAX_LOOKAHEAD);
        int count = state.items.weightsAhead(species, k, nextWeights);
        int lacking = state.target[species] - state.content[species * MAX_PLACES + place];
        int smallest = NONE;
        for (int set = 1; set < 1 << count; set++) {
            int excess = sumOfSet(nextWeights, set) - lacking;
            if (excess >= 0 && (smallest == NONE || excess < smallest)) {
                smallest = excess;
            }
        }
        return smallest;
    }

    private static int sumOfSet(int[] weights, int set) {
        int sum = 0;
        for (int k = 0; k < weights.length; k++) {
            if ((set >>> k & 1) != 0) {
                sum += weights[k];
            }
        }
        return sum;
    }

    public int iceNeeded() throws IllegalStateException {
        requireGrader();
        return state.lackingIce(setup);
    }

    private void prepareScratch() {
        scratch.copyFrom(state);
    }

    private int newlyClosed() {
        return scratch.boxes.count - state.boxes.count;
    }

    private int newGiveaway() {
        return scratch.boxes.excessFrom(state.boxes.count);
    }

    // ---- changes

    public int advance(int n) throws IllegalStateException, IllegalArgumentException {
        requireGrader();
        requireRange(n, 1, MAX_TICKS);
        remember();
        int before = state.boxes.count;
        state.run(setup, n);
        return state.boxes.count - before;
    }

    public int combine(int species, int place)
            throws IllegalStateException, IndexOutOfBoundsException, NoSuchElementException {
        requirePlace(species, place);
        int set = state.bestSet(species, place);
        if (set == NONE) {
            throw new NoSuchElementException("no set of the pool fills the box");
        }
        remember();
        state.putSet(set, species, place);
        return state.boxes.count - 1;
    }

    public int release(int index, int place) throws IllegalStateException, IndexOutOfBoundsException {
        requirePoolIndex(index);
        int item = state.pool[index];
        int species = state.items.species[item];
        requirePlace(species, place);
        remember();
        state.takeFromPool(index);
        state.putIntoBox(item, place);
        boolean full = state.closeIfFull(species, place);
        return full ? state.boxes.excess(state.boxes.count - 1) : NONE;
    }

    public int addItem(int reading, int ref, int species, int confidence)
            throws IllegalStateException, IndexOutOfBoundsException, IllegalArgumentException {
        requireSpecies(species);
        requireRange(reading, 0, MAX_READING);
        requireRange(ref, 1, MAX_REF);
        requireRange(confidence, 1, MAX_CONFIDENCE);
        if (state.items.count >= MAX_ITEMS) {
            throw new IllegalStateException("there are 80 items");
        }
        remember();
        int item = state.items.addWaiting(setup.weightFor(reading, ref));
        state.items.addVote(item, species, confidence);
        state.items.determine(item, setup.margin);
        return item;
    }

    public int setRule(int rule) throws IllegalStateException, IllegalArgumentException {
        requireGrader();
        requireRange(rule, 0, RULES - 1);
        remember();
        int previous = state.rule;
        state.rule = rule;
        return previous;
    }

    public int setLimit(int limit) throws IllegalStateException, IllegalArgumentException {
        requireGrader();
        requireRange(limit, 0, MAX_LIMIT);
        remember();
        int previous = state.limit;
        state.limit = limit;
        return previous;
    }

    public int setTarget(int species, int target)
            throws IllegalStateException, IndexOutOfBoundsException, IllegalArgumentException {
        requireSpecies(species);
        requireRange(target, 1, MAX_TARGET);
        remember();
        int previous = state.target[species];
        state.target[species] = target;
        return previous;
    }

    public int moveQuota(int from, int to, int amount)
            throws IllegalStateException, IndexOutOfBoundsException, IllegalArgumentException {
        requireSpecies(from);
        requireSpecies(to);
        requireRange(amount, 1, MAX_QUOTA);
        if (!state.canMoveQuota(from, to, amount)) {
            throw new IllegalArgumentException("this move is not possible");
        }
        remember();
        state.shiftQuota(from, to, amount);
        return state.quota[from];
    }

    public int undo() throws IllegalStateException {
        State earlier = changes < 1 ? null : history[changes - 1];
        if (earlier == null) {
            throw new IllegalStateException("there is no change to undo");
        }
        changes--;
        history[changes] = state;
        state = earlier;
        return changes;
    }

    public int undoable() {
        return changes;
    }

    public int save() throws IllegalStateException {
        requireGrader();
        saved.copyFrom(state);
        hasSaved = true;
        return state.time;
    }

    public int restore() throws IllegalStateException {
        if (!hasSaved) {
            throw new IllegalStateException("no state is saved");
        }
        state.copyFrom(saved);
        changes = 0;
        return state.time;
    }

    /** Keeps the state as it is before a change. */
    private void remember() {
        if (changes >= MAX_CHANGES) {
            forgetOldest();
        }
        State kept = history[changes];
        if (kept == null) {
            kept = new State();
            history[changes] = kept;
        }
        kept.copyFrom(state);
        changes++;
    }

    /** The oldest state's object moves to the end, where it is written again. */
    private void forgetOldest() {
        State oldest = history[0];
        for (int i = 1; i < MAX_CHANGES; i++) {
            history[i - 1] = history[i];
        }
        history[MAX_CHANGES - 1] = oldest;
        changes = MAX_CHANGES - 1;
    }

    // ---- texts

    public int label(int box) throws IllegalStateException, IndexOutOfBoundsException {
        requireBox(box);
        Boxes boxes = state.boxes;
        written.setLength(0);
        written.append(setup.kindOf(boxes.species[box]).name);
        written.append(' ').append(boxes.weight[box]);
        written.append('+').append(boxes.excess(box)).append(' ');
        if (boxes.icedAt[box] == NONE) {
            written.append("wait");
        } else {
            written.append("ice").append(boxes.icedAt[box]);
        }
        return written.length();
    }

    public int report() throws IllegalStateException {
        requireGrader();
        written.setLength(0);
        for (int species = 0; species < setup.speciesCount; species++) {
            reportSpecies(species);
        }
        written.append("all ").append(state.boxes.count);
        written.append(' ').append(state.earnedByAll(setup));
        return written.length();
    }

    private void reportSpecies(int species) {
        written.append(setup.kindOf(species).name);
        written.append(' ').append(state.boxes.countOf(species));
        written.append('x').append(state.target[species]);
        written.append(' ').append(state.boxes.excessOf(species));
        written.append(' ').append(state.landed[species]);
        written.append('/').append(state.quota[species]);
        written.append(' ').append(state.earned(setup, species));
        written.append(';');
    }

    public int labelByte(int k) throws IndexOutOfBoundsException {
        if (k < 0 || k >= written.length()) {
            throw new IndexOutOfBoundsException("no such byte");
        }
        return written.charAt(k);
    }

    // ---- what the calls require

    private void requireGrader() {
        if (!loaded) {
            throw new IllegalStateException("there is no grader");
        }
    }

    private void requireItem(int item) {
        requireGrader();
        if (item < 0 || item >= state.items.count) {
            throw new IndexOutOfBoundsException("no such item");
        }
    }

    private void requireSpecies(int species) {
        requireGrader();
        if (species < 0 || species >= setup.speciesCount) {
            throw new IndexOutOfBoundsException("no such species");
        }
    }

    private void requirePlace(int species, int place) {
        requireSpecies(species);
        if (place < 0 || place >= setup.kindOf(species).places) {
            throw new IndexOutOfBoundsException("no such place");
        }
    }

    private void requireBox(int box) {
        requireGrader();
        if (box < 0 || box >= state.boxes.count) {
            throw new IndexOutOfBoundsException("no such closed box");
        }
    }

    private void requirePoolIndex(int index) {
        requireGrader();
        if (index < 0 || index >= state.poolCount) {
            throw new IndexOutOfBoundsException("no such index in the pool");
        }
    }

    private static void requireRange(int value, int low, int high) {
        if (value < low || value > high) {
            throw new IllegalArgumentException("out of range");
        }
    }

    /** The words of the grammar; none of them can name a species. */
    private enum Word {
        GRADER("grader"),
        REFERENCE("reference"),
        MARGIN("margin"),
        LIMIT("limit"),
        POOL("pool"),
        ICE("ice"),
        STOP("stop"),
        SPECIES("species"),
        TARGET("target"),
        QUOTA("quota"),
        BOXES("boxes"),
        PRICE("price"),
        ITEM("item"),
        AND("and"),
        VOTE("vote");

        private static final Word[] ALL = values();

        private final String text;

        Word(String text) {
            this.text = text;
        }
    }

    /** The tokens of a text, one at a time. */
    private static final class Tokens {
        private static final int END = 0;
        private static final int BAD = 1;
        private static final int WORD = 2;
        private static final int NUMBER = 3;
        private static final int SEMICOLON = 4;
        private static final int MAX_LETTERS = 9;
        private static final int MAX_DIGITS = 6;

        private final byte[] bytes;
        private final int length;
        private int start = 0;
        private int next = 0;
        private int kind = END;
        private int value = 0;

        Tokens(byte[] bytes, int length) {
            this.bytes = bytes;
            this.length = Math.min(length, bytes.length);
        }

        private void step() {
            while (next < length && bytes[next] == ' ') {
                next++;
            }
            start = next;
            value = 0;
            while (next < length && bytes[next] >= 'a' && bytes[next] <= 'z') {
                next++;
            }
            if (next > start) {
                kind = next - start > MAX_LETTERS ? BAD : WORD;
                return;
            }
            while (next < length && bytes[next] >= '0' && bytes[next] <= '9') {
                // Digits beyond the sixth make the token bad: left out, they can't overflow the value.
                if (next - start < MAX_DIGITS) {
                    value = value * 10 + bytes[next] - '0';
                }
                next++;
            }
            if (next > start) {
                kind = next - start > MAX_DIGITS ? BAD : NUMBER;
            } else if (next >= length) {
                kind = END;
            } else {
                kind = bytes[next] == ';' ? SEMICOLON : BAD;
                next++;
            }
        }

        private boolean isText(String text) {
            if (text.length() != next - start) {
                return false;
            }
            for (int i = 0; i < text.length() && start + i < length; i++) {
                if (bytes[start + i] != text.charAt(i)) {
                    return false;
                }
            }
            return true;
        }

        private String copyText() {
            StringBuilder text = new StringBuilder();
            for (int i = start; i < next && i < length; i++) {
                text.append((char) bytes[i]);
            }
            return text.toString();
        }
    }

    /** Reads a text into a setup and the state at time 0; its methods tell whether the text is good so far. */
    private static final class Parser {
        private final Tokens tokens;
        private final Setup setup;
        private final State state;
        private boolean iceSeen = false;
        private int error = 0;
        private int errorAt = NONE;
        private int value = 0;
        private int readings = 0;
        private int refs = 0;

        Parser(Tokens tokens, Setup setup, State state) {
            this.tokens = tokens;
            this.setup = setup;
            this.state = state;
        }

        private boolean parseText() {
            setup.clear();
            state.clear();
            tokens.step();
            boolean good = graderLine();
            for (int lines = 0; good && lines < MAX_BYTES && tokens.kind == Tokens.SEMICOLON; lines++) {
                tokens.step();
                good = line();
            }
            return good && textEnd();
        }

        private boolean textEnd() {
            if (tokens.kind != Tokens.END) {
                return fail(BAD_TOKEN);
            }
            return setup.speciesCount > 0 || fail(NO_SPECIES);
        }

        private boolean graderLine() {
            if (!keyword(Word.GRADER) || !named(Word.REFERENCE, 1, 9999)) {
                return false;
            }
            setup.reference = value;
            if (!named(Word.MARGIN, 0, 99)) {
                return false;
            }
            setup.margin = value;
            if (!named(Word.LIMIT, 0, MAX_LIMIT)) {
                return false;
            }
            state.limit = value;
            if (!named(Word.POOL, 0, MAX_POOL)) {
                return false;
            }
            setup.poolSize = value;
            return true;
        }

        private boolean line() {
            if (isAt(Word.ICE)) {
                return iceLine();
            }
            if (isAt(Word.STOP)) {
                return stopLine();
            }
            if (isAt(Word.SPECIES)) {
                return speciesLine();
            }
            if (isAt(Word.ITEM)) {
                return itemLine();
            }
            return fail(BAD_TOKEN);
        }

        private boolean iceLine() {
            if (iceSeen) {
                return fail(REPEATED);
            }
            iceSeen = true;
            tokens.step();
            if (!number(0, 200)) {
                return false;
            }
            setup.percent = value;
            if (!number(0, 9999)) {
                return false;
            }
            setup.make = value;
            if (!number(0, 99999)) {
                return false;
            }
            setup.store = value;
            if (!number(0, 99)) {
                return false;
            }
            setup.due = value;
            if (!number(0, 50)) {
                return false;
            }
            setup.melt = value;
            return true;
        }

        private boolean stopLine() {
            if (setup.stopCount >= MAX_STOPS) {
                return fail(TOO_MANY);
            }
            tokens.step();
            if (!number(1, 999)) {
                return false;
            }
            int from = value;
            if (!number(from, 999)) {
                return false;
            }
            setup.addStop(from, value);
            return true;
        }

        private boolean speciesLine() {
            int species = setup.speciesCount;
            if (species >= MAX_SPECIES) {
                return fail(TOO_MANY);
            }
            tokens.step();
            if (!isName()) {
                return fail(BAD_TOKEN);
            }
            if (namedSpecies() != NONE) {
                return fail(REPEATED);
            }
            Kind kind = setup.kindOf(species);
            kind.name = tokens.copyText();
            tokens.step();
            if (!named(Word.TARGET, 1, MAX_TARGET)) {
                return false;
            }
            state.target[species] = value;
            if (!named(Word.QUOTA, 0, MAX_QUOTA)) {
                return false;
            }
            state.quota[species] = value;
            if (!named(Word.BOXES, 1, MAX_PLACES)) {
                return false;
            }
            kind.places = value;
            if (!named(Word.PRICE, 0, 99)) {
                return false;
            }
            kind.price = value;
            setup.speciesCount++;
            return true;
        }

        private boolean itemLine() {
            if (state.items.count >= MAX_TEXT_ITEMS) {
                return fail(TOO_MANY);
            }
            readings = 0;
            refs = 0;
            tokens.step();
            boolean good = sample();
            for (int samples = 1; good && isAt(Word.AND); samples++) {
                if (samples >= MAX_SAMPLES) {
                    return fail(TOO_MANY);
                }
                tokens.step();
                good = sample();
            }
            if (!good) {
                return false;
            }
            int item = state.items.addWaiting(setup.weightFor(readings, refs));
            for (int votes = 0; good && isAt(Word.VOTE); votes++) {
                if (votes >= MAX_VOTES) {
                    return fail(TOO_MANY);
                }
                tokens.step();
                good = vote(item);
            }
            state.items.determine(item, setup.margin);
            return good;
        }

        private boolean sample() {
            if (!number(0, MAX_READING)) {
                return false;
            }
            readings += value;
            if (!number(1, MAX_REF)) {
                return false;
            }
            refs += value;
            return true;
        }

        private boolean vote(int item) {
            if (!isName()) {
                return fail(BAD_TOKEN);
            }
            int species = namedSpecies();
            if (species == NONE) {
                return fail(UNKNOWN_SPECIES);
            }
            tokens.step();
            if (!number(1, MAX_CONFIDENCE)) {
                return false;
            }
            state.items.addVote(item, species, value);
            return true;
        }

        private boolean isAt(Word word) {
            return tokens.isText(word.text);
        }

        private boolean isName() {
            for (Word word : Word.ALL) {
                if (tokens.isText(word.text)) {
                    return false;
                }
            }
            return tokens.kind == Tokens.WORD;
        }

        /** The species that bears the token as its name. */
        private int namedSpecies() {
            for (int species = 0; species < setup.speciesCount; species++) {
                if (tokens.isText(setup.kindOf(species).name)) {
                    return species;
                }
            }
            return NONE;
        }

        private boolean named(Word word, int low, int high) {
            return keyword(word) && number(low, high);
        }

        private boolean keyword(Word word) {
            if (!tokens.isText(word.text)) {
                return fail(BAD_TOKEN);
            }
            tokens.step();
            return true;
        }

        private boolean number(int low, int high) {
            if (tokens.kind != Tokens.NUMBER) {
                return fail(BAD_TOKEN);
            }
            if (tokens.value < low || tokens.value > high) {
                return fail(OUT_OF_BOUNDS);
            }
            value = tokens.value;
            tokens.step();
            return true;
        }

        private boolean fail(int code) {
            error = code;
            errorAt = tokens.start;
            return false;
        }
    }

    /** What the text says of a species and no change alters. */
    private static final class Kind {
        private String name = "";
        private int places = 0;
        private int price = 0;
    }

    /** What the text says and no tick or change alters. */
    private static final class Setup {
        private int reference = 1;
        private int margin = 0;
        private int poolSize = 0;
        private int percent = 0;
        private int make = 0;
        private int store = 0;
        private int due = 0;
        private int melt = 0;
        private int stopCount = 0;
        private final int[] stopFrom = new int[MAX_STOPS];
        private final int[] stopUntil = new int[MAX_STOPS];
        private int speciesCount = 0;
        private final Kind kind0 = new Kind();
        private final Kind kind1 = new Kind();
        private final Kind kind2 = new Kind();
        private final Kind kind3 = new Kind();

        /** Only what a text may leave out: the rest is written before it is read. */
        private void clear() {
            percent = 0;
            make = 0;
            store = 0;
            due = 0;
            melt = 0;
            stopCount = 0;
            speciesCount = 0;
        }

        private Kind kindOf(int species) {
            switch (species) {
                case 0:
                    return kind0;
                case 1:
                    return kind1;
                case 2:
                    return kind2;
                default:
                    return kind3;
            }
        }

        private void addStop(int from, int until) {
            if (stopCount < MAX_STOPS) {
                stopFrom[stopCount] = from;
                stopUntil[stopCount] = until;
                stopCount++;
            }
        }

        private boolean stopsAt(int tick) {
            for (int i = 0; i < stopCount; i++) {
                if (tick >= stopFrom[i] && tick <= stopUntil[i]) {
                    return true;
                }
            }
            return false;
        }

        /** Half a divisor more before the division rounds halves up; all is doubled to stay with integers. */
        private int weightFor(int readings, int refs) {
            if (refs < 1) {
                return 0;
            }
            long twice = 2L * readings * reference;
            return (int) Math.min((twice + refs) / (2L * refs), MAX_WEIGHT);
        }

        private int iceFor(int weight) {
            return (weight * percent + 99) / 100;
        }
    }

    /** The items, and what has become of them. */
    private static final class Items {
        private int count = 0;
        private int handled = 0;
        private final int[] weight = new int[MAX_ITEMS];
        private final int[] species = new int[MAX_ITEMS];
        private final int[] fate = new int[MAX_ITEMS];
        private final int[] box = new int[MAX_ITEMS];
        private final int[] scores = new int[MAX_ITEMS * MAX_SPECIES];

        private void clear() {
            count = 0;
            handled = 0;
        }

        private void copyFrom(Items other) {
            count = other.count;
            handled = other.handled;
            System.arraycopy(other.weight, 0, weight, 0, count);
            System.arraycopy(other.species, 0, species, 0, count);
            System.arraycopy(other.fate, 0, fate, 0, count);
            System.arraycopy(other.box, 0, box, 0, count);
            System.arraycopy(other.scores, 0, scores, 0, count * MAX_SPECIES);
        }

        /** The callers look first whether there is room; without it the last item is given. */
        private int addWaiting(int itemWeight) {
            int item = Math.min(count, MAX_ITEMS - 1);
            weight[item] = itemWeight;
            species[item] = NONE;
            fate[item] = WAITING;
            box[item] = NONE;
            for (int kind = 0; kind < MAX_SPECIES; kind++) {
                scores[item * MAX_SPECIES + kind] = 0;
            }
            count = item + 1;
            return item;
        }

        private void addVote(int item, int kind, int confidence) {
            scores[item * MAX_SPECIES + kind] += confidence;
        }

        private int scoreFor(int item, int kind) {
            return scores[item * MAX_SPECIES + kind];
        }

        private void determine(int item, int margin) {
            int kind = favourite(item);
            boolean determined = scoreFor(item, kind) > 0 && clarity(item) >= margin;
            species[item] = determined ? kind : NONE;
        }

        private int favourite(int item) {
            int best = 0;
            for (int kind = 1; kind < MAX_SPECIES; kind++) {
                if (scoreFor(item, kind) > scoreFor(item, best)) {
                    best = kind;
                }
            }
            return best;
        }

        /** A species that the text does not have has no votes, so that its score of 0 stands for "no other species". */
        private int clarity(int item) {
            int best = favourite(item);
            int second = 0;
            for (int kind = 0; kind < MAX_SPECIES; kind++) {
                if (kind != best) {
                    second = Math.max(second, scoreFor(item, kind));
                }
            }
            return scoreFor(item, best) - second;
        }

        private boolean isInOpenBox(int item, int kind, int place) {
            return fate[item] == IN_OPEN_BOX && species[item] == kind && box[item] == place;
        }

        private int countInOpenBox(int kind, int place) {
            int sum = 0;
            for (int item = 0; item < count; item++) {
                if (isInOpenBox(item, kind, place)) {
                    sum++;
                }
            }
            return sum;
        }

        private void moveToClosedBox(int kind, int place, int number) {
            for (int item = 0; item < count; item++) {
                if (isInOpenBox(item, kind, place)) {
                    fate[item] = IN_CLOSED_BOX;
                    box[item] = number;
                }
            }
        }

        private int countFate(int wanted) {
            int sum = 0;
            for (int item = 0; item < count; item++) {
                if (fate[item] == wanted) {
                    sum++;
                }
            }
            return sum;
        }

        /** Writes the weights of the next items of a species into the row and gives their number. */
        private int weightsAhead(int kind, int most, int[] row) {
            int found = 0;
            for (int item = handled; item < count && found < most && found < row.length; item++) {
                if (species[item] == kind) {
                    row[found] = weight[item];
                    found++;
                }
            }
            return found;
        }
    }

    /**
     * The closed boxes. Every box has the same time to its due time, and a later number is closed no earlier: so the
     * order of the due times is that of the numbers, and the boxes that are iced are always the first ones.
     */
    private static final class Boxes {
        private int count = 0;
        private int iced = 0;
        private final int[] species = new int[MAX_ITEMS];
        private final int[] weight = new int[MAX_ITEMS];
        private final int[] target = new int[MAX_ITEMS];
        private final int[] closedAt = new int[MAX_ITEMS];
        private final int[] icedAt = new int[MAX_ITEMS];

        private void clear() {
            count = 0;
            iced = 0;
        }

        private void copyFrom(Boxes other) {
            count = other.count;
            iced = other.iced;
            System.arraycopy(other.species, 0, species, 0, count);
            System.arraycopy(other.weight, 0, weight, 0, count);
            System.arraycopy(other.target, 0, target, 0, count);
            System.arraycopy(other.closedAt, 0, closedAt, 0, count);
            System.arraycopy(other.icedAt, 0, icedAt, 0, count);
        }

        /** Each box holds an item at least, so that there is always room for one more. */
        private int addBox(int kind, int boxWeight, int boxTarget, int time) {
            int box = Math.min(count, MAX_ITEMS - 1);
            species[box] = kind;
            weight[box] = boxWeight;
            target[box] = boxTarget;
            closedAt[box] = time;
            icedAt[box] = NONE;
            count = box + 1;
            return box;
        }

        private int excess(int box) {
            return weight[box] - target[box];
        }

        private int excessFrom(int first) {
            int sum = 0;
            for (int box = first; box < count; box++) {
                sum += excess(box);
            }
            return sum;
        }

        private int excessOf(int kind) {
            int sum = 0;
            for (int box = 0; box < count; box++) {
                if (species[box] == kind) {
                    sum += excess(box);
                }
            }
            return sum;
        }

        private int countOf(int kind) {
            int sum = 0;
            for (int box = 0; box < count; box++) {
                if (species[box] == kind) {
                    sum++;
                }
            }
            return sum;
        }

        private int byExcess(int rank) {
            for (int box = 0; box < count; box++) {
                if (countWorse(box) == rank) {
                    return box;
                }
            }
            return NONE;
        }

        private int countWorse(int box) {
            int sum = 0;
            for (int other = 0; other < count; other++) {
                if (excess(other) > excess(box) || excess(other) == excess(box) && other < box) {
                    sum++;
                }
            }
            return sum;
        }

        private boolean isLate(int box, int due, int time) {
            int end = icedAt[box] == NONE ? time : icedAt[box];
            return end > closedAt[box] + due;
        }
    }

    /** Everything that ticks and changes alter. */
    private static final class State {
        private int time = 0;
        private int rule = 0;
        private int limit = 0;
        private int ice = 0;
        private int iceUsed = 0;
        private int poolCount = 0;
        private final int[] pool = new int[MAX_POOL];
        private final int[] target = new int[MAX_SPECIES];
        private final int[] quota = new int[MAX_SPECIES];
        private final int[] landed = new int[MAX_SPECIES];
        private final int[] discarded = new int[MAX_SPECIES];
        private final int[] content = new int[MAX_SPECIES * MAX_PLACES];
        private final Items items = new Items();
        private final Boxes boxes = new Boxes();

        private void clear() {
            time = 0;
            rule = 0;
            ice = 0;
            iceUsed = 0;
            poolCount = 0;
            for (int species = 0; species < MAX_SPECIES; species++) {
                landed[species] = 0;
                discarded[species] = 0;
            }
            for (int slot = 0; slot < content.length; slot++) {
                content[slot] = 0;
            }
            items.clear();
            boxes.clear();
        }

        private void copyFrom(State other) {
            time = other.time;
            rule = other.rule;
            limit = other.limit;
            ice = other.ice;
            iceUsed = other.iceUsed;
            poolCount = other.poolCount;
            System.arraycopy(other.pool, 0, pool, 0, MAX_POOL);
            System.arraycopy(other.target, 0, target, 0, MAX_SPECIES);
            System.arraycopy(other.quota, 0, quota, 0, MAX_SPECIES);
            System.arraycopy(other.landed, 0, landed, 0, MAX_SPECIES);
            System.arraycopy(other.discarded, 0, discarded, 0, MAX_SPECIES);
            System.arraycopy(other.content, 0, content, 0, content.length);
            items.copyFrom(other.items);
            boxes.copyFrom(other.boxes);
        }

        private void run(Setup setup, int ticks) {
            for (int i = 0; i < ticks; i++) {
                tick(setup);
            }
        }

        private void tick(Setup setup) {
            time++;
            ice -= (ice * setup.melt + 99) / 100;
            ice = Math.min(ice + setup.make, setup.store);
            iceBoxes(setup);
            if (!setup.stopsAt(time)) {
                handleNext(setup);
            }
        }

        private void iceBoxes(Setup setup) {
            for (int box = boxes.iced; box < boxes.count; box++) {
                int need = setup.iceFor(boxes.weight[box]);
                if (need > ice) {
                    return;
                }
                ice -= need;
                iceUsed += need;
                boxes.icedAt[box] = time;
                boxes.iced++;
            }
        }

        private void handleNext(Setup setup) {
            int item = items.handled;
            if (item >= items.count) {
                return;
            }
            items.handled++;
            int species = items.species[item];
            int weight = items.weight[item];
            if (species == NONE) {
                items.fate[item] = REJECTED;
                return;
            }
            if (landed[species] + weight > quota[species]) {
                items.fate[item] = DISCARDED;
                discarded[species] += weight;
                return;
            }
            landed[species] += weight;
            int place = choosePlace(setup, species, weight);
            if (place == NONE) {
                putIntoPool(item);
            } else {
                putIntoBox(item, place);
                closeIfFull(species, place);
            }
        }

        private void putIntoPool(int item) {
            if (poolCount < MAX_POOL) {
                pool[poolCount] = item;
                poolCount++;
                items.fate[item] = IN_POOL;
            }
        }

        /** NONE stands for the pool. */
        private int choosePlace(Setup setup, int species, int weight) {
            int places = setup.kindOf(species).places;
            int goal = target[species];
            int place = smallestSum(species, places, goal - weight, goal - weight + limit);
            if (place == NONE) {
                place = placeByRule(species, places, goal - weight);
            }
            if (place == NONE && poolCount >= setup.poolSize) {
                place = smallestSum(species, places, 0, GREATEST);
            }
            return place;
        }

        /** The sums of all boxes have the same weight in them: so the smallest content has the smallest sum. */
        private int smallestSum(int species, int places, int low, int high) {
            int best = NONE;
            int smallest = 0;
            for (int place = 0; place < places; place++) {
                int held = content[species * MAX_PLACES + place];
                if (held >= low && held <= high && (best == NONE || held < smallest)) {
                    best = place;
                    smallest = held;
                }
            }
            return best;
        }

        private int placeByRule(int species, int places, int below) {
            int best = NONE;
            int bestHeld = 0;
            for (int place = 0; place < places; place++) {
                int held = content[species * MAX_PLACES + place];
                if (held < below && (best == NONE || isPreferred(held, bestHeld))) {
                    best = place;
                    bestHeld = held;
                }
            }
            return best;
        }

        private boolean isPreferred(int held, int bestHeld) {
            return rule == 1 && held > bestHeld || rule == 2 && held < bestHeld;
        }

        private void putIntoBox(int item, int place) {
            content[items.species[item] * MAX_PLACES + place] += items.weight[item];
            items.fate[item] = IN_OPEN_BOX;
            items.box[item] = place;
        }

        private boolean closeIfFull(int species, int place) {
            int slot = species * MAX_PLACES + place;
            if (content[slot] < target[species]) {
                return false;
            }
            int number = boxes.addBox(species, content[slot], target[species], time);
            items.moveToClosedBox(species, place, number);
            content[slot] = 0;
            return true;
        }

        private void takeFromPool(int index) {
            for (int i = index + 1; i < poolCount; i++) {
                pool[i - 1] = pool[i];
            }
            poolCount--;
        }

        private void putSet(int set, int species, int place) {
            for (int index = poolCount - 1; index >= 0; index--) {
                if ((set >>> index & 1) != 0) {
                    int item = pool[index];
                    takeFromPool(index);
                    putIntoBox(item, place);
                }
            }
            closeIfFull(species, place);
        }

        /** The sets are tried from the smallest bit set on, and only a better one replaces the best so far. */
        private int bestSet(int species, int place) {
            int lacking = target[species] - content[species * MAX_PLACES + place];
            int allowed = poolSetOf(species);
            int best = NONE;
            int bestExcess = 0;
            for (int set = 1; set <= allowed; set++) {
                if ((set & ~allowed) != 0) {
                    continue;
                }
                int excess = poolWeight(set) - lacking;
                if (excess < 0) {
                    continue;
                }
                boolean fewer = Integer.bitCount(set) < Integer.bitCount(best);
                if (best == NONE || excess < bestExcess || excess == bestExcess && fewer) {
                    best = set;
                    bestExcess = excess;
                }
            }
            return best;
        }

        private int poolSetOf(int species) {
            int set = 0;
            for (int index = 0; index < poolCount; index++) {
                if (items.species[pool[index]] == species) {
                    set |= 1 << index;
                }
            }
            return set;
        }

        private int poolWeight(int set) {
            int sum = 0;
            for (int index = 0; index < poolCount; index++) {
                if ((set >>> index & 1) != 0) {
                    sum += items.weight[pool[index]];
                }
            }
            return sum;
        }

        private boolean canMoveQuota(int from, int to, int amount) {
            return from != to && quota[from] >= amount && quota[from] - amount >= landed[from];
        }

        private void shiftQuota(int from, int to, int amount) {
            quota[from] -= amount;
            quota[to] += amount;
        }

        private int countLate(Setup setup) {
            int sum = 0;
            for (int box = 0; box < boxes.count; box++) {
                if (boxes.isLate(box, setup.due, time)) {
                    sum++;
                }
            }
            return sum;
        }

        private int earned(Setup setup, int species) {
            int price = setup.kindOf(species).price;
            int sum = 0;
            for (int box = 0; box < boxes.count; box++) {
                if (boxes.species[box] == species) {
                    int full = price * boxes.target[box];
                    sum += boxes.isLate(box, setup.due, time) ? full / 2 : full;
                }
            }
            return sum;
        }

        private int earnedByAll(Setup setup) {
            int sum = 0;
            for (int species = 0; species < setup.speciesCount; species++) {
                sum += earned(setup, species);
            }
            return sum;
        }

        private int lackingIce(Setup setup) {
            int need = 0;
            for (int box = boxes.iced; box < boxes.count; box++) {
                need += setup.iceFor(boxes.weight[box]);
            }
            return Math.max(need - ice, 0);
        }
    }
}
