/**
 * Small switchboards in three rows, as the project's document describes them.
 * The public methods check their arguments and throw; the classes inside
 * answer a negative number where something is absent or refused.
 */
public final class SwitchRows {
    public static final int NONE = -1;

    private static final int ABSENT = -2;
    private static final int REFUSED = -3;

    private static final int MAX_BOARDS = 4;
    private static final int MAX_PLACES = 16;
    private static final int MAX_CALLS = 16;
    private static final int MAX_OUTPUTS_OF_CALL = 4;
    private static final int MAX_PATIENCE = 3;
    private static final int MAX_TEXT = 120;
    private static final int MAX_SIGN = 255;
    private static final int MAX_REMEMBERED = 14;
    private static final int SLOTS = 2;
    private static final int MAX_SCRIPT = 3;
    private static final int GROUP = 100000;
    private static final int MAX_TURNS = 60;

    private final State now = new State();
    private final State copy = new State();
    private final History history = new History();
    private final State[] slots = new State[SLOTS];
    private final boolean[] slotHolds = new boolean[SLOTS];
    private final Planner planner = new Planner();
    private final Reader reader = new Reader();

    public SwitchRows() {
        now.clear(3, 2, 3, 3);
        for (int i = 0; i < SLOTS; i++) {
            slots[i] = new State();
        }
    }

    // ---- text

    public int append(int c) throws IllegalArgumentException, IllegalStateException {
        if (c < 0 || c > MAX_SIGN) {
            throw new IllegalArgumentException("not a character");
        }
        if (reader.length >= MAX_TEXT) {
            throw new IllegalStateException("the text is full");
        }
        reader.signs[reader.length] = (char) c;
        reader.length++;
        return reader.length;
    }

    public int clearText() {
        int before = reader.length;
        reader.length = 0;
        return before;
    }

    public int errorPosition() {
        return reader.findError();
    }

    public int load() throws IllegalStateException {
        if (reader.findError() != NONE) {
            throw new IllegalStateException("the text is not an exchange");
        }
        reader.readBoards();
        now.clear(reader.first, reader.width, reader.middle, reader.last);
        history.forgetAll();
        for (int i = 0; i < SLOTS; i++) {
            slotHolds[i] = false;
        }
        int leftOut = 0;
        for (int i = 0; i < MAX_TEXT && reader.readCommand(); i++) {
            if (answerOfCommand() < 0) {
                leftOut++;
            }
        }
        return leftOut;
    }

    /** Does the command that was read last; the answer is negative if it is left out. */
    private int answerOfCommand() {
        switch (reader.letter) {
            case 'c':
                return now.addCall(planner, reader.number, reader.output);
            case 'j':
                return now.addOutput(planner, reader.number, reader.output);
            case 'h':
                return now.endCall(reader.number);
            case 'b':
                return now.makeBroken(reader.number, !now.isBroken(reader.number));
            default:
                return now.changePatience(reader.number);
        }
    }

    // ---- what there is

    public int about(int what) throws IllegalArgumentException {
        switch (what) {
            case 0:
                return now.first;
            case 1:
                return now.width;
            case 2:
                return now.middle;
            case 3:
                return now.last;
            case 4:
                return now.count;
            case 5:
                return now.patience;
            case 6:
                return now.movedInAll;
            case 7:
                return now.linksTaken();
            case 8:
                return now.broken;
            case 9:
                return now.outputsTaken();
            default:
                throw new IllegalArgumentException("what is 0 to 9");
        }
    }

    public int call(int c, int what) throws IndexOutOfBoundsException, IllegalArgumentException {
        if (!now.hasCall(c)) {
            throw new IndexOutOfBoundsException("no such call");
        }
        switch (what) {
            case 0:
                return now.input[c];
            case 1:
                return now.outputs[c];
            case 2:
                return now.board[c];
            case 3:
                return now.moved[c];
            case 4:
                return now.linksOf(c);
            default:
                throw new IllegalArgumentException("what is 0 to 4");
        }
    }

    public int link(boolean last, int m, int board) throws IndexOutOfBoundsException {
        if (!now.hasMiddle(m) || board < 0 || board >= (last ? now.last : now.first)) {
            throw new IndexOutOfBoundsException("no such board");
        }
        return last ? now.callToLast(m, board) : now.callFromFirst(m, board);
    }

    public int at(boolean output, int x) throws IndexOutOfBoundsException {
        if (output ? !now.hasOutput(x) : !now.hasInput(x)) {
            throw new IndexOutOfBoundsException("no such input or output");
        }
        return output ? now.callAtOutput(x) : now.callAtInput(x);
    }

    public int thanks(int x, boolean owes) throws IndexOutOfBoundsException {
        if (!now.hasInput(x)) {
            throw new IndexOutOfBoundsException("no such input");
        }
        return owes ? now.owed[x] : now.got[x];
    }

    // ---- actions

    public int connect(int x, int y) throws IndexOutOfBoundsException, IllegalStateException {
        history.note(now);
        return finished(now.addCall(planner, x, y));
    }

    public int join(int c, int y) throws IndexOutOfBoundsException, IllegalStateException {
        history.note(now);
        return finished(now.addOutput(planner, c, y));
    }

    public int hang(int c) throws IndexOutOfBoundsException {
        history.note(now);
        return finished(now.endCall(c));
    }

    public int drop(int y) throws IndexOutOfBoundsException, IllegalStateException {
        history.note(now);
        return finished(now.takeOutput(y));
    }

    public int setBroken(int m, boolean is) throws IndexOutOfBoundsException, IllegalStateException {
        history.note(now);
        return finished(now.makeBroken(m, is));
    }

    public int setPatience(int patience) throws IllegalArgumentException {
        if (patience < 0 || patience > MAX_PATIENCE) {
            throw new IllegalArgumentException("patience is 0 to 3");
        }
        history.note(now);
        return finished(now.changePatience(patience));
    }

    public int undo() throws IllegalStateException {
        int left = history.takeBack(now);
        if (left == REFUSED) {
            throw new IllegalStateException("no state is remembered");
        }
        return left;
    }

    /** Ends an action: throws for an answer that tells a failure, else remembers the state noted before it. */
    private int finished(int answer) {
        if (answer == ABSENT) {
            throw new IndexOutOfBoundsException("no such input, output, board or call");
        }
        if (answer == REFUSED) {
            throw new IllegalStateException("it can't be done now");
        }
        history.keepNoted();
        return answer;
    }

    // ---- what would be

    public int moves(int x, int y) throws IndexOutOfBoundsException {
        if (!now.hasInput(x) || !now.hasOutput(y)) {
            throw new IndexOutOfBoundsException("no such input or output");
        }
        if (now.callAtInput(x) != NONE || now.callAtOutput(y) != NONE) {
            return NONE;
        }
        return planner.forNewCall(now, now.boardOf(x), now.boardOf(y));
    }

    public int open(int most) throws IllegalArgumentException {
        if (most < 0 || most > MAX_PATIENCE) {
            throw new IllegalArgumentException("most is 0 to 3");
        }
        int pairs = 0;
        for (int a = 0; a < now.first; a++) {
            for (int b = 0; b < now.last; b++) {
                pairs += openBetween(a, b, most);
            }
        }
        return pairs;
    }

    /** All free pairs of two boards need the same moves, as plans know boards alone: one plan tells for all of them. */
    private int openBetween(int a, int b, int most) {
        int pairs = now.freeInputs(a) * now.freeOutputs(b);
        if (pairs == 0) {
            return 0;
        }
        int moving = planner.forNewCall(now, a, b);
        return moving != NONE && moving <= most ? pairs : 0;
    }

    public int fewest() {
        // The calls go by the boards there are, so that these always do.
        for (int boards = 0; boards < now.middle; boards++) {
            if (planner.wouldDo(now, boards)) {
                return boards;
            }
        }
        return now.middle;
    }

    public int weakest() {
        int fewestMoves = NONE;
        int weakestBoard = NONE;
        for (int m = 0; m < now.middle; m++) {
            int moving = now.isBroken(m) ? NONE : planner.forLosing(now, m);
            if (moving != NONE && (fewestMoves == NONE || moving < fewestMoves)) {
                fewestMoves = moving;
                weakestBoard = m;
            }
        }
        return weakestBoard == NONE ? NONE : 10 * fewestMoves + weakestBoard;
    }

    // ---- scripts, simulations

    public int runScript(int n, long script) throws IllegalArgumentException {
        if (n < 1 || n > MAX_SCRIPT) {
            throw new IllegalArgumentException("n is 1 to 3");
        }
        if (script < 0 || afterGroups(script, n) != 0) {
            throw new IllegalArgumentException("the script has 0 to 5 * n digits");
        }
        copy.become(now);
        for (int i = 0; i < n; i++) {
            int group = (int) (afterGroups(script, n - 1 - i) % GROUP);
            if (!succeeds(group)) {
                return i;
            }
        }
        return NONE;
    }

    /** What is left of a script when its lowest groups are cut off. */
    private static long afterGroups(long script, int groups) {
        long rest = script;
        for (int i = 0; i < groups; i++) {
            rest /= GROUP;
        }
        return rest;
    }

    private boolean succeeds(int group) {
        int high = group / 100 % 100;
        int low = group % 100;
        switch (group / 10000) {
            case 1:
                return copy.addCall(planner, high, low) >= 0;
            case 2:
                return copy.addOutput(planner, high, low) >= 0;
            case 3:
                return low == 0 && copy.endCall(high) >= 0;
            case 4:
                return high == 0 && copy.takeOutput(low) >= 0;
            case 5:
                return low == 0 && high % 10 <= 1 && copy.makeBroken(high / 10, high % 10 == 1) >= 0;
            case 6:
                return high == 0 && low <= MAX_PATIENCE && copy.changePatience(low) >= 0;
            case 7:
                return copy.hasCall(high) && copy.board[high] == low;
            case 8:
                return high == 0 && copy.linksTaken() <= low;
            case 9:
                return high == 0 && copy.count >= low;
            default:
                return false;
        }
    }

    public int simulate(long seed, int m) throws IllegalArgumentException {
        if (m < 1 || m > MAX_TURNS) {
            throw new IllegalArgumentException("m is 1 to 60");
        }
        copy.become(now);
        long x = seed;
        int moving = 0;
        for (int i = 0; i < m; i++) {
            x = x * 6364136223846793005L + 1442695040888963407L;
            moving += movesOfTurn((int) (x >>> 33));
        }
        return 1000 * moving + copy.count;
    }

    /** Does one turn on the copy, and tells how many calls moved in it. */
    private int movesOfTurn(int r) {
        int input = rest(r / 8, copy.inputs());
        int output = rest(r / 128, copy.places(copy.last));
        int c = rest(r / 8, copy.count);
        switch (r % 8) {
            case 4:
                return Math.max(0, copy.addOutput(planner, c, output));
            case 5:
            case 6:
                copy.endCall(c);
                return 0;
            case 7:
                copy.takeOutput(output);
                return 0;
            default:
                return Math.max(0, copy.addCall(planner, input, output));
        }
    }

    /** The remainder; by nothing it is that by 1. */
    private static int rest(int number, int divisor) {
        return divisor > 0 ? number % divisor : 0;
    }

    // ---- save slots

    public int save(int slot) throws IndexOutOfBoundsException {
        if (slot < 0 || slot >= SLOTS) {
            throw new IndexOutOfBoundsException("no such save slot");
        }
        slots[slot].become(now);
        slotHolds[slot] = true;
        return now.count;
    }

    public int restore(int slot) throws IndexOutOfBoundsException, IllegalStateException {
        if (slot < 0 || slot >= SLOTS) {
            throw new IndexOutOfBoundsException("no such save slot");
        }
        if (!slotHolds[slot]) {
            throw new IllegalStateException("nothing has been saved in it");
        }
        now.become(slots[slot]);
        history.forgetAll();
        return now.count;
    }

    /** The boards, the calls and what was counted so far: all that an action can change. */
    private static final class State {
        int first;
        int width;
        int middle;
        int last;
        int patience;
        int broken;
        int movedInAll;
        int count;
        final int[] input = new int[MAX_CALLS];
        final int[] outputs = new int[MAX_CALLS];
        final int[] board = new int[MAX_CALLS];
        final int[] moved = new int[MAX_CALLS];
        final int[] got = new int[MAX_PLACES];
        final int[] owed = new int[MAX_PLACES];

        void clear(int firstBoards, int newWidth, int middleBoards, int lastBoards) {
            first = firstBoards;
            width = newWidth;
            middle = middleBoards;
            last = lastBoards;
            patience = 2;
            broken = 0;
            movedInAll = 0;
            count = 0;
            for (int x = 0; x < MAX_PLACES; x++) {
                got[x] = 0;
                owed[x] = 0;
            }
        }

        void become(State other) {
            first = other.first;
            width = other.width;
            middle = other.middle;
            last = other.last;
            patience = other.patience;
            broken = other.broken;
            movedInAll = other.movedInAll;
            count = other.count;
            System.arraycopy(other.input, 0, input, 0, MAX_CALLS);
            System.arraycopy(other.outputs, 0, outputs, 0, MAX_CALLS);
            System.arraycopy(other.board, 0, board, 0, MAX_CALLS);
            System.arraycopy(other.moved, 0, moved, 0, MAX_CALLS);
            System.arraycopy(other.got, 0, got, 0, MAX_PLACES);
            System.arraycopy(other.owed, 0, owed, 0, MAX_PLACES);
        }

        int places(int boards) {
            return boards * width;
        }

        int inputs() {
            return places(first);
        }

        boolean hasInput(int x) {
            return x >= 0 && x < inputs();
        }

        boolean hasOutput(int y) {
            return y >= 0 && y < places(last);
        }

        boolean hasMiddle(int m) {
            return m >= 0 && m < middle;
        }

        boolean hasCall(int c) {
            return c >= 0 && c < count;
        }

        boolean isBroken(int m) {
            return (broken >> m & 1) != 0;
        }

        /** The middle boards that are not broken, a bit each. */
        int wholeBoards() {
            return (1 << middle) - 1 & ~broken;
        }

        /** The board of an input in the first row, or of an output in the last one. */
        int boardOf(int place) {
            return width > 0 ? place / width : 0;
        }

        /** The boards of the last row at which a call has outputs, a bit each. */
        int lastBoardsOf(int c) {
            int boards = 0;
            for (int y = 0; y < MAX_PLACES; y++) {
                if ((outputs[c] >> y & 1) != 0) {
                    boards |= 1 << boardOf(y);
                }
            }
            return boards;
        }

        int linksOf(int c) {
            return 1 + Integer.bitCount(lastBoardsOf(c));
        }

        int linksTaken() {
            int links = 0;
            for (int c = 0; c < count; c++) {
                links += linksOf(c);
            }
            return links;
        }

        int outputsTaken() {
            int taken = 0;
            for (int c = 0; c < count; c++) {
                taken += Integer.bitCount(outputs[c]);
            }
            return taken;
        }

        int callAtInput(int x) {
            for (int c = 0; c < count; c++) {
                if (input[c] == x) {
                    return c;
                }
            }
            return NONE;
        }

        int callAtOutput(int y) {
            for (int c = 0; c < count; c++) {
                if ((outputs[c] >> y & 1) != 0) {
                    return c;
                }
            }
            return NONE;
        }

        int callFromFirst(int m, int firstBoard) {
            for (int c = 0; c < count; c++) {
                if (board[c] == m && boardOf(input[c]) == firstBoard) {
                    return c;
                }
            }
            return NONE;
        }

        int callToLast(int m, int lastBoard) {
            for (int c = 0; c < count; c++) {
                if (board[c] == m && (lastBoardsOf(c) >> lastBoard & 1) != 0) {
                    return c;
                }
            }
            return NONE;
        }

        int freeInputs(int firstBoard) {
            int free = 0;
            for (int i = 0; i < width; i++) {
                if (callAtInput(firstBoard * width + i) == NONE) {
                    free++;
                }
            }
            return free;
        }

        int freeOutputs(int lastBoard) {
            int free = 0;
            for (int i = 0; i < width; i++) {
                if (callAtOutput(lastBoard * width + i) == NONE) {
                    free++;
                }
            }
            return free;
        }

        /** Answers how many calls move, or ABSENT, or REFUSED. */
        int addCall(Planner planner, int x, int y) {
            if (!hasInput(x) || !hasOutput(y)) {
                return ABSENT;
            }
            if (callAtInput(x) != NONE || callAtOutput(y) != NONE || count >= MAX_CALLS) {
                return REFUSED;
            }
            int moving = planner.forNewCall(this, boardOf(x), boardOf(y));
            if (moving == NONE) {
                return REFUSED;
            }
            moveOver(planner, NONE, x);
            input[count] = x;
            outputs[count] = 1 << y;
            board[count] = planner.best[count];
            moved[count] = 0;
            count++;
            return moving;
        }

        /** Answers how many calls move, or ABSENT, or REFUSED. */
        int addOutput(Planner planner, int c, int y) {
            if (!hasCall(c) || !hasOutput(y)) {
                return ABSENT;
            }
            if (callAtOutput(y) != NONE || Integer.bitCount(outputs[c]) >= MAX_OUTPUTS_OF_CALL) {
                return REFUSED;
            }
            int moving = planner.forMoreOutputs(this, c, boardOf(y));
            if (moving == NONE) {
                return REFUSED;
            }
            moveOver(planner, c, input[c]);
            outputs[c] |= 1 << y;
            return moving;
        }

        /** Moves the calls as the best plan wants it; nobody is thanked for the move of the asking call itself. */
        private void moveOver(Planner planner, int asking, int askingInput) {
            for (int c = 0; c < count; c++) {
                if (board[c] != planner.best[c]) {
                    board[c] = planner.best[c];
                    moved[c]++;
                    movedInAll++;
                    if (c != asking) {
                        got[input[c]]++;
                        owed[askingInput]++;
                    }
                }
            }
        }

        /** Answers the number of calls then, or ABSENT. */
        int endCall(int c) {
            if (!hasCall(c)) {
                return ABSENT;
            }
            count--;
            for (int i = c; i < count; i++) {
                input[i] = input[i + 1];
                outputs[i] = outputs[i + 1];
                board[i] = board[i + 1];
                moved[i] = moved[i + 1];
            }
            return count;
        }

        /** Answers how many outputs the call has then, or ABSENT, or REFUSED. */
        int takeOutput(int y) {
            if (!hasOutput(y)) {
                return ABSENT;
            }
            int c = callAtOutput(y);
            if (c == NONE || outputs[c] == 1 << y) {
                return REFUSED;
            }
            outputs[c] &= ~(1 << y);
            return Integer.bitCount(outputs[c]);
        }

        /** Answers the number of middle boards that are not broken, or ABSENT, or REFUSED. */
        int makeBroken(int m, boolean is) {
            if (!hasMiddle(m)) {
                return ABSENT;
            }
            if (is && hasCallBy(m)) {
                return REFUSED;
            }
            broken = is ? broken | 1 << m : broken & ~(1 << m);
            return Integer.bitCount(wholeBoards());
        }

        private boolean hasCallBy(int m) {
            for (int c = 0; c < count; c++) {
                if (board[c] == m) {
                    return true;
                }
            }
            return false;
        }

        /** Answers the patience before. */
        int changePatience(int newPatience) {
            int before = patience;
            patience = newPatience;
            return before;
        }
    }

    /**
     * The states before the last actions, in a ring. It has one place more than states are remembered: an action may
     * still fail when the state before it is noted, and must not cost the oldest one then.
     */
    private static final class History {
        private static final int PLACES = MAX_REMEMBERED + 1;

        private final State[] kept = new State[PLACES];
        private int oldest;
        private int size;

        History() {
            for (int i = 0; i < PLACES; i++) {
                kept[i] = new State();
            }
        }

        void note(State state) {
            kept[(oldest + size) % PLACES].become(state);
        }

        void keepNoted() {
            if (size < MAX_REMEMBERED) {
                size++;
            } else {
                oldest = (oldest + 1) % PLACES;
            }
        }

        /** Answers how many are still remembered, or REFUSED. */
        int takeBack(State state) {
            if (size == 0) {
                return REFUSED;
            }
            size--;
            state.become(kept[(oldest + size) % PLACES]);
            return size;
        }

        void forgetAll() {
            size = 0;
        }
    }

    /**
     * Looks for plans. The asking call is held at one board after another; a call that is not held but no longer fits
     * at its own board has to move, and is then held where it went. In a plan with the fewest moves each move is forced
     * in this way by what was held before (any other move could be left out), so that this finds all such plans.
     */
    private static final class Planner {
        private int count;
        private int asking;
        private final int[] from = new int[MAX_CALLS];
        private final int[] to = new int[MAX_CALLS];
        private final int[] before = new int[MAX_CALLS];
        private final int[] trial = new int[MAX_CALLS];
        private int held;
        private final int[] heldFrom = new int[MAX_BOARDS];
        private final int[] heldTo = new int[MAX_BOARDS];
        private int allowed;
        private int limit;
        private int bestMoves;
        final int[] best = new int[MAX_CALLS];

        /** The calls that move for a new call from a first board to a last one, or NONE. */
        int forNewCall(State state, int firstBoard, int lastBoard) {
            start(state, state.wholeBoards(), state.patience);
            if (count >= MAX_CALLS) {
                return NONE;
            }
            asking = count;
            from[asking] = 1 << firstBoard;
            to[asking] = 1 << lastBoard;
            before[asking] = NONE;
            count++;
            settle(this, 0, 0);
            return bestMoves;
        }

        /** The calls that move for another output of a call, or NONE. */
        int forMoreOutputs(State state, int c, int lastBoard) {
            start(state, state.wholeBoards(), state.patience);
            if (c < 0 || c >= count) {
                return NONE;
            }
            asking = c;
            to[asking] |= 1 << lastBoard;
            settle(this, 0, 0);
            return bestMoves;
        }

        /** The calls that would have to move without a middle board, or NONE. */
        int forLosing(State state, int m) {
            start(state, state.wholeBoards() & ~(1 << m), MAX_CALLS);
            settle(this, 0, 0);
            return bestMoves;
        }

        /** Whether so many middle boards would do for all calls. */
        boolean wouldDo(State state, int boards) {
            start(state, (1 << boards) - 1, MAX_CALLS);
            return placed(this, 0);
        }

        private void start(State state, int allowedBoards, int mostMoves) {
            count = state.count;
            asking = NONE;
            for (int c = 0; c < count; c++) {
                from[c] = 1 << state.boardOf(state.input[c]);
                to[c] = state.lastBoardsOf(c);
                before[c] = state.board[c];
                trial[c] = state.board[c];
            }
            held = 0;
            for (int m = 0; m < MAX_BOARDS; m++) {
                heldFrom[m] = 0;
                heldTo[m] = 0;
            }
            allowed = allowedBoards;
            limit = mostMoves;
            bestMoves = NONE;
        }

        private boolean isHeld(int c) {
            return (held >> c & 1) != 0;
        }

        private boolean fits(int c, int m) {
            return m >= 0 && m < MAX_BOARDS && (allowed >> m & 1) != 0
                && (heldFrom[m] & from[c]) == 0 && (heldTo[m] & to[c]) == 0;
        }

        private void hold(int c, int m) {
            trial[c] = m;
            held |= 1 << c;
            heldFrom[m] |= from[c];
            heldTo[m] |= to[c];
        }

        private void release(int c, int m) {
            trial[c] = before[c];
            held &= ~(1 << c);
            heldFrom[m] &= ~from[c];
            heldTo[m] &= ~to[c];
        }

        /** The asking call, and when that is held, the first one that what is held leaves no room at its own board. */
        private int nextToHold() {
            if (asking != NONE && !isHeld(asking)) {
                return asking;
            }
            for (int c = 0; c < count; c++) {
                if (!isHeld(c) && !fits(c, trial[c])) {
                    return c;
                }
            }
            return NONE;
        }

        /** Goes on until every call fits. Each level holds one more call, so that the depth is at most their number. */
        private static void settle(Planner p, int depth, int moved) {
            if (depth > MAX_CALLS || moved > p.limit) {
                return;
            }
            int c = p.nextToHold();
            if (c == NONE) {
                p.keepIfBetter(moved);
                return;
            }
            for (int m = 0; m < MAX_BOARDS; m++) {
                if (p.fits(c, m)) {
                    boolean goesElsewhere = p.before[c] != NONE && p.before[c] != m;
                    p.hold(c, m);
                    settle(p, depth + 1, goesElsewhere ? moved + 1 : moved);
                    p.release(c, m);
                }
            }
        }

        private void keepIfBetter(int moved) {
            if (bestMoves == NONE || moved < bestMoves || isTrialLower()) {
                bestMoves = moved;
                limit = moved;
                System.arraycopy(trial, 0, best, 0, MAX_CALLS);
            }
        }

        private boolean isTrialLower() {
            for (int c = 0; c < count; c++) {
                if (trial[c] != best[c]) {
                    return trial[c] < best[c];
                }
            }
            return false;
        }

        /** Places the calls from c on, whatever boards they have. Each level holds one more call. */
        private static boolean placed(Planner p, int c) {
            if (c >= p.count || c >= MAX_CALLS) {
                return true;
            }
            for (int m = 0; m < MAX_BOARDS; m++) {
                // Empty boards are all alike: where the first of them does not help, no other does.
                boolean isEmpty = p.heldFrom[m] == 0;
                if (p.fits(c, m)) {
                    p.hold(c, m);
                    boolean done = placed(p, c + 1);
                    p.release(c, m);
                    if (done) {
                        return true;
                    }
                }
                if (isEmpty) {
                    return false;
                }
            }
            return false;
        }
    }

    /** Holds the text, and reads it part by part. */
    private static final class Reader {
        final char[] signs = new char[MAX_TEXT];
        int length;
        private int position;
        int first;
        int width;
        int middle;
        int last;
        int letter;
        int number;
        int output;

        /** Answers the error position, or NONE. */
        int findError() {
            if (!readBoards()) {
                return position;
            }
            for (int i = 0; i < MAX_TEXT && position < length; i++) {
                if (!readCommand()) {
                    return position;
                }
            }
            return NONE;
        }

        /** Starts at the front of the text; where it answers false, the position is that of the error. */
        boolean readBoards() {
            position = 0;
            if (sign() != 'C') {
                return false;
            }
            position++;
            first = readDigit(1, MAX_BOARDS);
            width = first == NONE ? NONE : readDigit(1, MAX_BOARDS);
            middle = width == NONE ? NONE : readDigit(1, MAX_BOARDS);
            last = middle == NONE ? NONE : readDigit(1, MAX_BOARDS);
            return last != NONE;
        }

        /** Reads a letter and its numbers; where it answers false, the position is that of the error or the end. */
        boolean readCommand() {
            letter = sign();
            switch (letter) {
                case 'c':
                    position++;
                    number = readNumber(first * width - 1);
                    return number != NONE && readOutput();
                case 'j':
                    position++;
                    number = readNumber(MAX_CALLS - 1);
                    return number != NONE && readOutput();
                case 'h':
                    position++;
                    number = readNumber(MAX_CALLS - 1);
                    return number != NONE;
                case 'b':
                    position++;
                    number = readDigit(0, middle - 1);
                    return number != NONE;
                case 'p':
                    position++;
                    number = readDigit(0, MAX_PATIENCE);
                    return number != NONE;
                default:
                    return false;
            }
        }

        private boolean readOutput() {
            output = readNumber(last * width - 1);
            return output != NONE;
        }

        /** The sign at the position, NONE behind the text. */
        private int sign() {
            return position < length && position < MAX_TEXT ? signs[position] : NONE;
        }

        /** Reads a digit; NONE, and the position stays, if there is none in this range. */
        private int readDigit(int lowest, int highest) {
            int digit = sign() - '0';
            if (digit < lowest || digit > highest) {
                return NONE;
            }
            position++;
            return digit;
        }

        /** Reads a number of two digits up to the highest one; NONE if there is none. */
        private int readNumber(int highest) {
            int tens = readDigit(0, highest / 10);
            if (tens == NONE) {
                return NONE;
            }
            int ones = readDigit(0, Math.min(9, highest - 10 * tens));
            return ones == NONE ? NONE : 10 * tens + ones;
        }
    }
}
