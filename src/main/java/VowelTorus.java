import java.util.NoSuchElementException;

/**
 * A puzzle of letters that slide on a torus. What each call answers is promised by ../shared/DOC.md.
 *
 * <p>No call makes an object but the exception that it throws: all calls of a run share one room, so all that is
 * needed is made once, with the object.
 */
public final class VowelTorus {
    private static final int NONE = -1;

    private static final int LEAST_SIDE = 2;
    private static final int MOST_SIDE = 3;
    private static final int MOST_TURNS = 12;
    private static final int MOST_UNDOS = 8;
    private static final int MOST_TIMES = 99;
    private static final int LONGEST_LINE = 11;
    private static final int LONGEST_INPUT = 60;
    private static final int LONGEST_NUMBER = 3;
    private static final int LAST_SEED = 999;
    private static final int MOST_SCRAMBLED = 9;

    /** A place of a board holds a number of four bits: 0 to 11 for the letters, and 12 for ".". */
    private static final int BITS = 4;
    private static final long PLACE_MASK = 15L;
    private static final int LETTERS = 12;
    private static final int DOT = 12;

    private static final int MOST_AWAY = 3;
    private static final int TOO_FAR = MOST_AWAY + 1;

    private static final int BOARD = 'b';
    private static final int PUT = 'p';
    private static final int GOAL = 'g';
    private static final int TURN = 't';
    private static final int SWAP = 's';
    private static final int BAR = 'x';
    private static final int SCRAMBLE = 'r';

    private static final int FINE = 0;
    private static final int NO_INDEX = 1;
    private static final int NO_ARGUMENT = 2;
    private static final int REFUSED = 3;

    private static final int LINE_IS_BARRED = 1;
    private static final int SO_ALREADY = 2;
    private static final int PLACES_ARE_ONE = 3;
    private static final int GOAL_IS_OUT = 4;
    private static final int GOAL_IS_REACHED = 5;

    private final Board now = new Board();
    private final Board before = new Board();
    private final Board saved = new Board();
    private final History history = new History();
    private final Halfway halfway = new Halfway();
    private final Line written = new Line();
    private final Orders orders = new Orders();
    private final char[] input = new char[LONGEST_INPUT];
    private int inputLength = 0;
    private int errorAt = NONE;
    private int reason = NONE;
    private int detail = NONE;
    private boolean isSaved = false;

    public VowelTorus() {
        now.lay(MOST_SIDE, MOST_SIDE);
    }

    // Boards, goals and turns.

    public int board(int rows, int columns) throws IllegalArgumentException {
        change(BOARD, rows, columns);
        return now.places();
    }

    public char put(int place, char letter)
            throws IndexOutOfBoundsException, IllegalArgumentException, UnsupportedOperationException {
        long old = now.letters;
        change(PUT, place, codeOf(letter));
        return signOf(codeAt(old, place));
    }

    public char goal(int place, char sign)
            throws IndexOutOfBoundsException, IllegalArgumentException, UnsupportedOperationException {
        long old = now.aim;
        change(GOAL, place, codeOf(sign));
        return signOf(codeAt(old, place));
    }

    public int turn(int turn) throws IndexOutOfBoundsException, UnsupportedOperationException {
        change(TURN, turn, 0);
        return now.atHome(now.letters);
    }

    public int swap(int one, int other) throws IndexOutOfBoundsException, UnsupportedOperationException {
        change(SWAP, one, other);
        return now.atHome(now.letters);
    }

    public boolean bar(int line) throws IndexOutOfBoundsException {
        change(BAR, line, 0);
        return now.hasBar(line);
    }

    public int scramble(int seed, int turns) throws IllegalArgumentException {
        int old = now.turnsMade;
        change(SCRAMBLE, seed, turns);
        return now.turnsMade - old;
    }

    public int step() throws UnsupportedOperationException, NoSuchElementException {
        raise(judgeStep());
        halfway.search(now);
        int turn = halfway.first;
        if (turn < 0) {
            throw new NoSuchElementException("the goal is more than 3 turns away");
        }
        history.keep(now);
        now.stepsMade++;
        now.turnToGoal(turn);
        return turn;
    }

    public char letter(int place) throws IndexOutOfBoundsException {
        needIndex(now.hasPlace(place));
        return signOf(codeAt(now.letters, place));
    }

    public char sign(int place) throws IndexOutOfBoundsException {
        needIndex(now.hasPlace(place));
        return signOf(codeAt(now.aim, place));
    }

    public boolean isBarred(int line) throws IndexOutOfBoundsException {
        needIndex(now.hasLine(line));
        return now.hasBar(line);
    }

    public int boardOf(int what) throws IllegalArgumentException {
        switch (what) {
            case 0:
                return now.rows;
            case 1:
                return now.columns;
            case 2:
                return now.turns();
            case 3:
                return now.turns() - 2 * now.barredLines();
            case 4:
                return now.unlikeLetters();
            case 5:
                return now.vowels();
            case 6:
                return now.count(now.aim, DOT);
            default:
                throw new IllegalArgumentException("what is not from 0 to 6");
        }
    }

    // Ways and homes.

    public int away(boolean isAgain) throws NoSuchElementException {
        int fewest = isAgain ? fewestByAll() : fewestByHalves();
        if (fewest > MOST_AWAY) {
            throw new NoSuchElementException("the goal is more than 3 turns away");
        }
        return fewest;
    }

    public int firstTurn() throws NoSuchElementException {
        halfway.search(now);
        if (halfway.first < 0) {
            throw new NoSuchElementException("the goal is reached, or more than 3 turns away");
        }
        return halfway.first;
    }

    public boolean isOut() {
        return now.isBeyondReach();
    }

    public boolean isOdd(boolean isAgain) throws NoSuchElementException {
        if (!now.hasSameLetters()) {
            throw new NoSuchElementException("letters are alike, or the goal has others");
        }
        return isAgain ? now.isOddByPairs(now.aim) : now.isOddByCycles(now.aim);
    }

    public int home() {
        return now.atHome(now.letters);
    }

    public int would(int turn) throws IndexOutOfBoundsException {
        needIndex(now.hasTurn(turn));
        return now.atHome(now.turned(now.letters, turn));
    }

    public int best() throws NoSuchElementException {
        int best = now.bestTurn();
        if (best < 0) {
            throw new NoSuchElementException("all lines are barred");
        }
        return best;
    }

    public int where(int place, int turn, int times) throws IndexOutOfBoundsException, IllegalArgumentException {
        needIndex(now.hasPlace(place) && now.hasTurn(turn));
        if (times < 0 || times > MOST_TIMES) {
            throw new IllegalArgumentException("the times are not from 0 to 99");
        }
        return now.placeBehind(place, turn, times);
    }

    public int far(int one, int other) throws IndexOutOfBoundsException {
        needIndex(now.hasPlace(one) && now.hasPlace(other));
        return now.distance(one, other);
    }

    // Singing and orders.

    public boolean sings(int line) throws IndexOutOfBoundsException {
        needIndex(now.hasLine(line));
        return now.hasSong(line);
    }

    public int singing() {
        int songs = 0;
        for (int i = 0; i < now.lines(); i++) {
            if (now.hasSong(i)) {
                songs++;
            }
        }
        return songs;
    }

    public int ranked(int place) throws NoSuchElementException {
        int found = now.lineByVowels(place);
        if (found < 0) {
            throw new NoSuchElementException("no such place in the order of lines");
        }
        return found;
    }

    // Lines of text, texts, accounts, undo and snapshot.

    public int text() {
        return writeAll(now.letters);
    }

    public int goalText() {
        return writeAll(now.aim);
    }

    public int lineText(int line) throws IndexOutOfBoundsException {
        needIndex(now.hasLine(line));
        written.clear();
        if (now.hasBar(line)) {
            written.add('#');
        }
        for (int i = 0; i < now.lineLength(line); i++) {
            written.add(signOf(codeAt(now.letters, now.placeOn(line, i))));
        }
        if (now.hasSong(line)) {
            written.add('!');
        }
        return written.length;
    }

    public char character(int index) throws IndexOutOfBoundsException {
        needIndex(index >= 0 && index < written.length);
        return written.signAt(index);
    }

    public int append(char c) throws IllegalStateException {
        if (inputLength < 0 || inputLength >= input.length) {
            throw new IllegalStateException("the input is full");
        }
        input[inputLength] = c;
        inputLength++;
        return inputLength;
    }

    public int run() throws IllegalArgumentException, UnsupportedOperationException {
        errorAt = orders.read(input, inputLength);
        inputLength = 0;
        int verdict = errorAt < 0 ? carryOutAll() : NO_ARGUMENT;
        // A place, line or turn that is not there is one more fault of the text.
        raise(verdict == NO_INDEX ? NO_ARGUMENT : verdict);
        return orders.count;
    }

    public int errorPosition() {
        return errorAt;
    }

    public int refusal(boolean isDetail) throws NoSuchElementException {
        if (reason < 0) {
            throw new NoSuchElementException("nothing was refused");
        }
        return isDetail ? detail : reason;
    }

    public int account(int what) throws IllegalArgumentException {
        switch (what) {
            case 0:
                return now.places();
            case 1:
                return now.barredLines();
            case 2:
                return now.turnsMade;
            case 3:
                return now.swapsMade;
            case 4:
                return now.scramblesMade;
            case 5:
                return now.stepsMade;
            case 6:
                return now.boardsMade;
            case 7:
                return now.goalsReached;
            case 8:
                return inputLength;
            case 9:
                return history.count;
            default:
                throw new IllegalArgumentException("what is not from 0 to 9");
        }
    }

    public boolean isWell() {
        int fewest = fewestByHalves();
        if (fewest != fewestByAll() || (fewest <= MOST_AWAY && now.isBeyondReach())) {
            return false;
        }
        if (now.hasSameLetters() && now.isOddByCycles(now.aim) != now.isOddByPairs(now.aim)) {
            return false;
        }
        return now.areTurnsTakenBack();
    }

    public double meanFar() throws ArithmeticException {
        int found = 0;
        int sum = 0;
        for (int place = 0; place < now.places(); place++) {
            int code = codeAt(now.aim, place);
            if (now.count(now.letters, code) == 1) {
                found++;
                sum += now.distance(place, now.placeOf(now.letters, code));
            }
        }
        if (found == 0) {
            throw new ArithmeticException("no letter of the goal is once on the board");
        }
        return (double) sum / (double) found;
    }

    public float homeShare() {
        int places = now.places();
        return places == 0 ? 0f : (float) now.atHome(now.letters) / (float) places;
    }

    public int undo() throws IllegalStateException {
        if (history.count <= 0) {
            throw new IllegalStateException("no change can be undone");
        }
        history.takeBack(now);
        return history.count;
    }

    public int save() {
        saved.copy(now);
        isSaved = true;
        return now.atHome(now.letters);
    }

    public int restore() throws IllegalStateException {
        if (!isSaved) {
            throw new IllegalStateException("there is no snapshot");
        }
        now.copy(saved);
        history.forget();
        return now.atHome(now.letters);
    }

    // What the calls have in common.

    private static void needIndex(boolean isThere) {
        if (!isThere) {
            throw new IndexOutOfBoundsException("no such place, line, turn or index");
        }
    }

    private static void raise(int verdict) {
        if (verdict == NO_INDEX) {
            throw new IndexOutOfBoundsException("no such place, line or turn");
        }
        if (verdict == NO_ARGUMENT) {
            throw new IllegalArgumentException("a number, letter or text is not as it must be");
        }
        if (verdict == REFUSED) {
            throw new UnsupportedOperationException("it is refused");
        }
    }

    private void change(int kind, int one, int other) {
        raise(judge(kind, one, other));
        history.keep(now);
        carryOut(kind, one, other);
    }

    /** Tells whether an order can be carried out; a refusal is kept. */
    private int judge(int kind, int one, int other) {
        switch (kind) {
            case BOARD:
                return isSide(one) && isSide(other) ? FINE : NO_ARGUMENT;
            case PUT:
                return judgeSign(one, other, now.letters, LETTERS - 1);
            case GOAL:
                return judgeSign(one, other, now.aim, DOT);
            case TURN:
                return judgeTurn(one);
            case SWAP:
                return judgeSwap(one, other);
            case BAR:
                return now.hasLine(one) ? FINE : NO_INDEX;
            case SCRAMBLE:
                return judgeScramble(one, other);
            default:
                return NO_ARGUMENT;
        }
    }

    private int judgeSign(int place, int code, long signs, int lastCode) {
        if (!now.hasPlace(place)) {
            return NO_INDEX;
        }
        if (code < 0 || code > lastCode) {
            return NO_ARGUMENT;
        }
        return codeAt(signs, place) == code ? refuse(SO_ALREADY, place) : FINE;
    }

    private int judgeTurn(int turn) {
        if (!now.hasTurn(turn)) {
            return NO_INDEX;
        }
        return now.canTurn(turn) ? FINE : refuse(LINE_IS_BARRED, turn / 2);
    }

    private int judgeSwap(int one, int other) {
        if (!now.hasPlace(one) || !now.hasPlace(other)) {
            return NO_INDEX;
        }
        return one == other ? refuse(PLACES_ARE_ONE, one) : FINE;
    }

    private int judgeScramble(int seed, int turns) {
        boolean isSeed = seed >= 0 && seed <= LAST_SEED;
        return isSeed && turns >= 1 && turns <= MOST_SCRAMBLED ? FINE : NO_ARGUMENT;
    }

    private int judgeStep() {
        if (now.isReached()) {
            return refuse(GOAL_IS_REACHED, now.places());
        }
        if (now.isBeyondReach()) {
            return refuse(GOAL_IS_OUT, now.places() - now.atHome(now.letters));
        }
        return FINE;
    }

    private int refuse(int why, int what) {
        reason = why;
        detail = what;
        return REFUSED;
    }

    /** Carries out an order that was judged to be fine. */
    private void carryOut(int kind, int one, int other) {
        switch (kind) {
            case BOARD:
                now.lay(one, other);
                now.boardsMade++;
                break;
            case PUT:
                now.letters = withCode(now.letters, one, other);
                break;
            case GOAL:
                now.aim = withCode(now.aim, one, other);
                break;
            case TURN:
                now.turnToGoal(one);
                break;
            case SWAP:
                now.exchange(one, other);
                break;
            case BAR:
                now.bars ^= 1 << one;
                break;
            case SCRAMBLE:
                now.mix(one, other);
                break;
            default:
                break;
        }
    }

    private int carryOutAll() {
        before.copy(now);
        for (int i = 0; i < orders.count; i++) {
            int verdict = judge(orders.kindOf(i), orders.oneOf(i), orders.otherOf(i));
            if (verdict != FINE) {
                now.copy(before);
                return verdict;
            }
            carryOut(orders.kindOf(i), orders.oneOf(i), orders.otherOf(i));
        }
        history.keep(before);
        return FINE;
    }

    private int fewestByHalves() {
        halfway.search(now);
        return halfway.fewest;
    }

    private int fewestByAll() {
        return fewestFrom(now, now.letters, 0);
    }

    /** The fewest turns to the goal, those that are already made included; the depth is held by these. */
    private static int fewestFrom(Board board, long letters, int made) {
        if (board.isGoal(letters)) {
            return made;
        }
        int fewest = TOO_FAR;
        if (made >= MOST_AWAY) {
            return fewest;
        }
        for (int turn = 0; turn < board.turns(); turn++) {
            if (board.canTurn(turn)) {
                fewest = Math.min(fewest, fewestFrom(board, board.turned(letters, turn), made + 1));
            }
        }
        return fewest;
    }

    private int writeAll(long signs) {
        written.clear();
        for (int place = 0; place < now.places(); place++) {
            if (place > 0 && now.columnOf(place) == 0) {
                written.add('/');
            }
            written.add(signOf(codeAt(signs, place)));
        }
        return written.length;
    }

    private static boolean isSide(int length) {
        return length >= LEAST_SIDE && length <= MOST_SIDE;
    }

    private static int codeOf(char sign) {
        if (sign == '.') {
            return DOT;
        }
        return sign >= 'a' && sign <= 'l' ? sign - 'a' : NONE;
    }

    private static char signOf(int code) {
        return code == DOT ? '.' : (char) ('a' + code);
    }

    private static boolean isVowel(char letter) {
        return letter == 'a' || letter == 'e' || letter == 'i' || letter == 'o' || letter == 'u';
    }

    private static int codeAt(long signs, int place) {
        return (int) ((signs >>> (BITS * place)) & PLACE_MASK);
    }

    private static long withCode(long signs, int place, int code) {
        long emptied = signs & ~(PLACE_MASK << (BITS * place));
        return emptied | ((long) code << (BITS * place));
    }

    /** All that changes can change: the board, its goal, its bars and the counts. */
    private static final class Board {
        int rows = MOST_SIDE;
        int columns = MOST_SIDE;
        long letters = 0L;
        long aim = 0L;
        int bars = 0;
        int turnsMade = 0;
        int swapsMade = 0;
        int scramblesMade = 0;
        int stepsMade = 0;
        int boardsMade = 0;
        int goalsReached = 0;

        void copy(Board other) {
            rows = other.rows;
            columns = other.columns;
            letters = other.letters;
            aim = other.aim;
            bars = other.bars;
            turnsMade = other.turnsMade;
            swapsMade = other.swapsMade;
            scramblesMade = other.scramblesMade;
            stepsMade = other.stepsMade;
            boardsMade = other.boardsMade;
            goalsReached = other.goalsReached;
        }

        void lay(int newRows, int newColumns) {
            rows = newRows;
            columns = newColumns;
            letters = 0L;
            for (int place = 0; place < places(); place++) {
                letters = withCode(letters, place, place);
            }
            aim = letters;
            bars = 0;
        }

        int places() {
            return rows * columns;
        }

        int lines() {
            return rows + columns;
        }

        int turns() {
            return 2 * lines();
        }

        boolean hasPlace(int place) {
            return place >= 0 && place < places();
        }

        boolean hasLine(int line) {
            return line >= 0 && line < lines();
        }

        boolean hasTurn(int turn) {
            return turn >= 0 && turn < turns();
        }

        boolean hasBar(int line) {
            return ((bars >> line) & 1) == 1;
        }

        boolean canTurn(int turn) {
            return !hasBar(turn / 2);
        }

        int barredLines() {
            return Integer.bitCount(bars);
        }

        int rowOf(int place) {
            return columns > 0 ? place / columns : 0;
        }

        int columnOf(int place) {
            return place - rowOf(place) * columns;
        }

        int lineLength(int line) {
            return line < rows ? columns : rows;
        }

        int lineStart(int line) {
            return line < rows ? line * columns : line - rows;
        }

        int lineStride(int line) {
            return line < rows ? 1 : columns;
        }

        int placeOn(int line, int index) {
            return lineStart(line) + index * lineStride(line);
        }

        /** Turns a whole line by shifts, since some 2000 turns are made as all rows of turns are tried. */
        long turned(long signs, int turn) {
            int line = turn / 2;
            int start = BITS * lineStart(line);
            int next = BITS * lineStride(line);
            int round = next * (lineLength(line) - 1);
            long mask = PLACE_MASK | (PLACE_MASK << next) | (PLACE_MASK << round);
            long old = (signs >>> start) & mask;
            long moved = turn % 2 == 0 ? (old << next) | (old >>> round) : (old >>> next) | (old << round);
            return (signs & ~(mask << start)) | ((moved & mask) << start);
        }

        boolean areTurnsTakenBack() {
            for (int turn = 0; turn < turns(); turn++) {
                if (turned(turned(letters, turn), turn ^ 1) != letters) {
                    return false;
                }
            }
            return true;
        }

        void turnToGoal(int turn) {
            boolean wasReached = isReached();
            makeTurn(turn);
            if (!wasReached && isReached()) {
                goalsReached++;
            }
        }

        private void makeTurn(int turn) {
            letters = turned(letters, turn);
            turnsMade++;
        }

        void exchange(int one, int other) {
            int kept = codeAt(letters, one);
            letters = withCode(letters, one, codeAt(letters, other));
            letters = withCode(letters, other, kept);
            swapsMade++;
        }

        void mix(int seed, int times) {
            int left = seed;
            int divisor = turns();
            for (int i = 0; i < times && divisor > 0; i++) {
                left = (73 * left + 41) % 1000;
                int turn = left % divisor;
                if (canTurn(turn)) {
                    makeTurn(turn);
                }
            }
            scramblesMade++;
        }

        int atHome(long signs) {
            int found = 0;
            for (int place = 0; place < places(); place++) {
                int wanted = codeAt(aim, place);
                if (wanted == DOT || wanted == codeAt(signs, place)) {
                    found++;
                }
            }
            return found;
        }

        boolean isReached() {
            return isGoal(letters);
        }

        boolean isGoal(long signs) {
            for (int place = 0; place < places(); place++) {
                int wanted = codeAt(aim, place);
                if (wanted != DOT && wanted != codeAt(signs, place)) {
                    return false;
                }
            }
            return true;
        }

        /** The places that matter: all bits of those with a letter in the goal. */
        long cares() {
            long cares = 0L;
            for (int place = 0; place < places(); place++) {
                if (codeAt(aim, place) != DOT) {
                    cares = withCode(cares, place, (int) PLACE_MASK);
                }
            }
            return cares;
        }

        int count(long signs, int code) {
            int found = 0;
            for (int place = 0; place < places(); place++) {
                if (codeAt(signs, place) == code) {
                    found++;
                }
            }
            return found;
        }

        int placeOf(long signs, int code) {
            for (int place = 0; place < places(); place++) {
                if (codeAt(signs, place) == code) {
                    return place;
                }
            }
            return NONE;
        }

        int unlikeLetters() {
            int found = 0;
            for (int code = 0; code < LETTERS; code++) {
                if (count(letters, code) > 0) {
                    found++;
                }
            }
            return found;
        }

        private boolean areAllUnlike() {
            return unlikeLetters() == places();
        }

        boolean hasSameLetters() {
            boolean isSame = areAllUnlike();
            for (int place = 0; place < places(); place++) {
                isSame = isSame && count(aim, codeAt(letters, place)) == 1;
            }
            return isSame;
        }

        boolean isBeyondReach() {
            for (int code = 0; code < LETTERS; code++) {
                if (count(aim, code) > count(letters, code)) {
                    return true;
                }
            }
            // A turn of three letters is two swaps; one of two letters is one, so there no parity stays.
            boolean isParityKept = rows == MOST_SIDE && columns == MOST_SIDE;
            if (!isParityKept || !areAllUnlike() || count(aim, DOT) > 1) {
                return false;
            }
            return isOddByCycles(filledAim());
        }

        /** The goal with the letter that is left over in place of its one ".", if it has one. */
        private long filledAim() {
            int open = placeOf(aim, DOT);
            for (int code = 0; code < LETTERS && open >= 0; code++) {
                if (count(letters, code) > count(aim, code)) {
                    return withCode(aim, open, code);
                }
            }
            return aim;
        }

        boolean isOddByCycles(long wanted) {
            int seen = 0;
            int cycles = 0;
            for (int start = 0; start < places(); start++) {
                if (((seen >> start) & 1) == 0) {
                    cycles++;
                }
                int place = start;
                for (int i = 0; i < places() && place >= 0 && ((seen >> place) & 1) == 0; i++) {
                    seen |= 1 << place;
                    place = placeOf(wanted, codeAt(letters, place));
                }
            }
            return (places() - cycles) % 2 != 0;
        }

        boolean isOddByPairs(long wanted) {
            boolean isOddSoFar = false;
            for (int one = 0; one < places(); one++) {
                int goesTo = placeOf(wanted, codeAt(letters, one));
                for (int other = one + 1; other < places(); other++) {
                    if (goesTo > placeOf(wanted, codeAt(letters, other))) {
                        isOddSoFar = !isOddSoFar;
                    }
                }
            }
            return isOddSoFar;
        }

        int bestTurn() {
            int bestSoFar = NONE;
            int most = NONE;
            for (int turn = 0; turn < turns(); turn++) {
                int found = canTurn(turn) ? atHome(turned(letters, turn)) : NONE;
                if (found > most) {
                    most = found;
                    bestSoFar = turn;
                }
            }
            return bestSoFar;
        }

        int placeBehind(int place, int turn, int times) {
            long marked = PLACE_MASK << (BITS * place);
            for (int i = 0; i < times; i++) {
                marked = turned(marked, turn);
            }
            return placeOf(marked, (int) PLACE_MASK);
        }

        int distance(int one, int other) {
            int down = Math.abs(rowOf(one) - rowOf(other));
            int across = Math.abs(columnOf(one) - columnOf(other));
            return Math.min(down, rows - down) + Math.min(across, columns - across);
        }

        private boolean isVowelOn(int line, int index) {
            return isVowel(signOf(codeAt(letters, placeOn(line, index))));
        }

        private int vowelsOn(int line) {
            int found = 0;
            for (int i = 0; i < lineLength(line); i++) {
                if (isVowelOn(line, i)) {
                    found++;
                }
            }
            return found;
        }

        int vowels() {
            int found = 0;
            for (int row = 0; row < rows; row++) {
                found += vowelsOn(row);
            }
            return found;
        }

        boolean hasSong(int line) {
            int last = lineLength(line) - 1;
            for (int i = 0; i <= last; i++) {
                if (isVowelOn(line, i) && isVowelOn(line, i == last ? 0 : i + 1)) {
                    return false;
                }
            }
            return vowelsOn(line) > 0;
        }

        int lineByVowels(int place) {
            int passed = 0;
            for (int wanted = MOST_SIDE; wanted >= 0; wanted--) {
                for (int line = 0; line < lines(); line++) {
                    if (vowelsOn(line) == wanted) {
                        if (passed == place) {
                            return line;
                        }
                        passed++;
                    }
                }
            }
            return NONE;
        }
    }

    /** The fewest turns to the goal: boards by two turns at most meet goals with one taken back at most. */
    private static final class Halfway {
        private final long[] boards = new long[1 + MOST_TURNS + MOST_TURNS * MOST_TURNS];
        private final int[] firsts = new int[1 + MOST_TURNS + MOST_TURNS * MOST_TURNS];
        private final long[] goals = new long[1 + MOST_TURNS];
        private final long[] cares = new long[1 + MOST_TURNS];
        private int boardCount = 0;
        private int goalCount = 0;
        int fewest = TOO_FAR;
        int first = NONE;

        /** Finds how many turns away the goal is, and the first of them, if there is one. */
        void search(Board board) {
            fewest = TOO_FAR;
            first = NONE;
            takeGoalsBack(board);
            boardCount = 0;
            addBoard(board.letters, NONE);
            spread(board, 0, 1);
            int byOne = boardCount;
            spread(board, 1, byOne);
            if (!meet(0, 0, 1, 0, 1) && !meet(1, 1, byOne, 0, 1) && !meet(2, byOne, boardCount, 0, 1)) {
                meet(3, byOne, boardCount, 1, goalCount);
            }
        }

        private void takeGoalsBack(Board board) {
            long matters = board.cares();
            goalCount = 0;
            addGoal(board.aim, matters);
            for (int turn = 0; turn < board.turns(); turn++) {
                if (board.canTurn(turn)) {
                    addGoal(board.turned(board.aim, turn ^ 1), board.turned(matters, turn ^ 1));
                }
            }
        }

        private void addGoal(long goal, long matters) {
            if (goalCount >= 0 && goalCount < goals.length && goalCount < cares.length) {
                goals[goalCount] = goal;
                cares[goalCount] = matters;
                goalCount++;
            }
        }

        private void addBoard(long letters, int firstTurnOfIt) {
            if (boardCount >= 0 && boardCount < boards.length && boardCount < firsts.length) {
                boards[boardCount] = letters;
                firsts[boardCount] = firstTurnOfIt;
                boardCount++;
            }
        }

        /** Adds the boards by one turn more; they stay in the order of their first turns. */
        private void spread(Board board, int from, int to) {
            for (int i = from; i < to && i >= 0 && i < boards.length && i < firsts.length; i++) {
                for (int turn = 0; turn < board.turns(); turn++) {
                    if (board.canTurn(turn)) {
                        addBoard(board.turned(boards[i], turn), firsts[i] < 0 ? turn : firsts[i]);
                    }
                }
            }
        }

        /** The first board that meets a goal has the lowest first turn, by the order in which boards were added. */
        private boolean meet(int turns, int from, int to, int fromGoal, int toGoal) {
            for (int i = from; i < to && i >= 0 && i < boards.length && i < firsts.length; i++) {
                if (isMet(boards[i], fromGoal, toGoal)) {
                    fewest = turns;
                    first = firsts[i];
                    return true;
                }
            }
            return false;
        }

        private boolean isMet(long letters, int from, int to) {
            for (int i = from; i < to && i >= 0 && i < goals.length && i < cares.length; i++) {
                if (((letters ^ goals[i]) & cares[i]) == 0L) {
                    return true;
                }
            }
            return false;
        }
    }

    /** The latest states ahead of changes, in a ring: a new one takes the place of the oldest. */
    private static final class History {
        private final Board[] ring = new Board[MOST_UNDOS];
        private int next = 0;
        int count = 0;

        History() {
            for (int i = 0; i < ring.length; i++) {
                ring[i] = new Board();
            }
        }

        void keep(Board board) {
            copyBoard(board, at(next));
            next = next + 1 >= MOST_UNDOS ? 0 : next + 1;
            count = Math.min(count + 1, MOST_UNDOS);
        }

        void takeBack(Board board) {
            next = next <= 0 ? MOST_UNDOS - 1 : next - 1;
            count = Math.max(count - 1, 0);
            copyBoard(at(next), board);
        }

        void forget() {
            count = 0;
        }

        private Board at(int index) {
            return index >= 0 && index < ring.length ? ring[index] : null;
        }

        private static void copyBoard(Board from, Board to) {
            if (from != null && to != null) {
                to.copy(from);
            }
        }
    }

    /** The line of text. */
    private static final class Line {
        private final char[] signs = new char[LONGEST_LINE];
        int length = 0;

        void clear() {
            length = 0;
        }

        void add(char sign) {
            if (length >= 0 && length < signs.length) {
                signs[length] = sign;
                length++;
            }
        }

        char signAt(int index) {
            return index >= 0 && index < signs.length ? signs[index] : ' ';
        }
    }

    /** The orders of a text, and the reader that finds them. */
    private static final class Orders {
        private final int[] kinds = new int[LONGEST_INPUT];
        private final int[] ones = new int[LONGEST_INPUT];
        private final int[] others = new int[LONGEST_INPUT];
        private char[] source = null;
        private int length = 0;
        private int at = 0;
        int count = 0;

        int kindOf(int index) {
            return index >= 0 && index < kinds.length ? kinds[index] : NONE;
        }

        int oneOf(int index) {
            return index >= 0 && index < ones.length ? ones[index] : NONE;
        }

        int otherOf(int index) {
            return index >= 0 && index < others.length ? others[index] : NONE;
        }

        /** Reads a text; returns its error position, or -1. */
        int read(char[] input, int inputLength) {
            source = input;
            length = inputLength;
            at = 0;
            count = 0;
            for (int i = 0; i < LONGEST_INPUT && readOrder(); i++) {
                if (at >= length) {
                    return NONE;
                }
                if (!take(';')) {
                    return at;
                }
            }
            return at;
        }

        /** Reads an order; if it has an error, its offset is where the reader stands then. */
        private boolean readOrder() {
            int kind = peek();
            if (!isKind(kind)) {
                return false;
            }
            at++;
            int one = kind == TURN || kind == SCRAMBLE ? takeNumber() : takeDigit();
            if (one < 0 || (kind == SCRAMBLE && !take('/'))) {
                return false;
            }
            int other = takeOther(kind);
            if (other < 0) {
                return false;
            }
            add(kind, one, other);
            return true;
        }

        private int takeOther(int kind) {
            switch (kind) {
                case PUT:
                    return takeCode(LETTERS - 1);
                case GOAL:
                    return takeCode(DOT);
                case TURN:
                case BAR:
                    return 0;
                default:
                    return takeDigit();
            }
        }

        private void add(int kind, int one, int other) {
            if (count >= 0 && count < kinds.length && count < ones.length && count < others.length) {
                kinds[count] = kind;
                ones[count] = one;
                others[count] = other;
                count++;
            }
        }

        private static boolean isKind(int sign) {
            return sign == BOARD || sign == PUT || sign == GOAL || sign == TURN || sign == SWAP || sign == BAR
                || sign == SCRAMBLE;
        }

        /** The character at which the reader stands; behind the text one that no order has. */
        private char peek() {
            boolean isInside = source != null && at >= 0 && at < length && at < source.length;
            return isInside ? source[at] : (char) 0;
        }

        private boolean take(char wanted) {
            boolean isThere = peek() == wanted;
            if (isThere) {
                at++;
            }
            return isThere;
        }

        private int takeDigit() {
            char sign = peek();
            if (sign < '0' || sign > '9') {
                return NONE;
            }
            at++;
            return sign - '0';
        }

        private int takeNumber() {
            int number = takeDigit();
            int digit = number;
            for (int i = 1; i < LONGEST_NUMBER && digit >= 0; i++) {
                digit = takeDigit();
                if (digit >= 0) {
                    number = 10 * number + digit;
                }
            }
            return number;
        }

        private int takeCode(int lastCode) {
            int code = codeOf(peek());
            if (code < 0 || code > lastCode) {
                return NONE;
            }
            at++;
            return code;
        }
    }
}
