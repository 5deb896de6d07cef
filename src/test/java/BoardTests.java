/** Promises 1 to 13: boards, goals and turns. */
final class BoardTests {
    private static final Class<IndexOutOfBoundsException> NO_INDEX = IndexOutOfBoundsException.class;
    private static final Class<IllegalArgumentException> NO_ARGUMENT = IllegalArgumentException.class;

    private BoardTests() {
    }

    static void addTo(AllTests all) {
        all.add("1 a new object", BoardTests::newObject);
        all.add("2 board", BoardTests::board);
        all.add("2 board leaves the counts", BoardTests::boardLeavesCounts);
        all.add("2 board refuses other sizes", BoardTests::boardSizes);
        all.add("3 put", BoardTests::put);
        all.add("3 put: what comes first", BoardTests::putErrors);
        all.add("4 goal", BoardTests::goal);
        all.add("4 goal: what comes first", BoardTests::goalErrors);
        all.add("5 turn, each of 3 by 3", BoardTests::turnThreeByThree);
        all.add("5 turn, of other boards", BoardTests::turnOtherBoards);
        all.add("5 turn: errors and reason 1", BoardTests::turnErrors);
        all.add("6 swap", BoardTests::swap);
        all.add("6 swap: errors and reason 3", BoardTests::swapErrors);
        all.add("7 bar", BoardTests::bar);
        all.add("8 scramble", BoardTests::scramble);
        all.add("8 scramble leaves barred lines", BoardTests::scrambleBarred);
        all.add("8 scramble: errors", BoardTests::scrambleErrors);
        all.add("9 step", BoardTests::step);
        all.add("9 step: reasons 5 and 4, and too far", BoardTests::stepErrors);
        all.add("10 letter", BoardTests::letter);
        all.add("11 sign", BoardTests::sign);
        all.add("12 isBarred", BoardTests::isBarred);
        all.add("13 boardOf", BoardTests::boardOf);
    }

    private static void newObject() {
        VowelTorus x = new VowelTorus();
        Check.is("the board", "abcdefghi abcdefghi ------ 3x3", Look.board(x));
        Check.is("the state", "abcdefghi abcdefghi ------ 3x3 9 0 0 0 0 0 0 0 0 0", Look.state(x));
    }

    private static void board() {
        VowelTorus x = Make.puzzle(3, 3, "lkjhgfedc", "....aaaaa");
        x.bar(0);
        x.bar(4);
        Check.is("board(2, 3)", 6, x.board(2, 3));
        Check.is("2 by 3", "abcdef abcdef ----- 2x3", Look.board(x));
        Check.is("board(3, 2)", 6, x.board(3, 2));
        Check.is("3 by 2", "abcdef abcdef ----- 3x2", Look.board(x));
        Check.is("board(2, 2)", 4, x.board(2, 2));
        Check.is("2 by 2", "abcd abcd ---- 2x2", Look.board(x));
        Check.is("board(3, 3)", 9, x.board(3, 3));
        Check.is("3 by 3", "abcdefghi abcdefghi ------ 3x3", Look.board(x));
        Check.is("the boards made", 5, x.account(6));
    }

    private static void boardLeavesCounts() {
        VowelTorus x = new VowelTorus();
        Make.turn(x, 0);
        x.step();
        x.swap(0, 1);
        x.scramble(5, 3);
        x.board(2, 2);
        Check.is("the state", "abcd abcd ---- 2x2 4 0 5 1 1 1 1 1 0 5", Look.state(x));
    }

    private static void boardSizes() {
        int[] wrong = {1, 4, 0, -1, -2, 5, Integer.MAX_VALUE, Integer.MIN_VALUE, 1 << 30};
        for (int size : wrong) {
            VowelTorus x = Make.barred(1);
            Check.failsAlone("board(" + size + ", 2)", NO_ARGUMENT, x, () -> x.board(size, 2));
            Check.failsAlone("board(3, " + size + ")", NO_ARGUMENT, x, () -> x.board(3, size));
            Check.failsAlone("board(" + size + ", " + size + ")", NO_ARGUMENT, x, () -> x.board(size, size));
        }
    }

    private static void put() {
        VowelTorus x = new VowelTorus();
        Check.is("put(0, l)", 'a', x.put(0, 'l'));
        Check.is("put(8, a)", 'i', x.put(8, 'a'));
        Check.is("put(4, d)", 'e', x.put(4, 'd'));
        Check.is("put(0, b)", 'l', x.put(0, 'b'));
        Check.is("the board", "bbcddfgha abcdefghi ------ 3x3", Look.board(x));
        Check.is("what can be undone", 4, x.account(9));
    }

    private static void putErrors() {
        VowelTorus x = Make.puzzle(2, 3, "abcdef", "abcdef");
        for (int place : new int[] {-1, 6, 9, Integer.MAX_VALUE, Integer.MIN_VALUE}) {
            Check.failsAlone("put(" + place + ", a)", NO_INDEX, x, () -> x.put(place, 'a'));
            Check.failsAlone("put(" + place + ", z)", NO_INDEX, x, () -> x.put(place, 'z'));
        }
        for (char sign : new char[] {'m', '`', 'A', '.', 0, ' ', '0', (char) 353, (char) 65535}) {
            Check.failsAlone("put(5, " + (int) sign + ")", NO_ARGUMENT, x, () -> x.put(5, sign));
        }
        Check.refuses("put(5, f)", 2, 5, x, () -> x.put(5, 'f'));
        Check.refuses("put(0, a)", 2, 0, x, () -> x.put(0, 'a'));
    }

    private static void goal() {
        VowelTorus x = new VowelTorus();
        Check.is("goal(0, .)", 'a', x.goal(0, '.'));
        Check.is("goal(0, l)", '.', x.goal(0, 'l'));
        Check.is("goal(8, a)", 'i', x.goal(8, 'a'));
        Check.is("the board", "abcdefghi lbcdefgha ------ 3x3", Look.board(x));
        Check.is("what can be undone", 3, x.account(9));
        Check.is("goals reached", 0, x.account(7));
    }

    private static void goalErrors() {
        VowelTorus x = Make.puzzle(3, 2, "abcdef", "abcde.");
        for (int place : new int[] {-1, 6, Integer.MAX_VALUE, Integer.MIN_VALUE}) {
            Check.failsAlone("goal(" + place + ", .)", NO_INDEX, x, () -> x.goal(place, '.'));
            Check.failsAlone("goal(" + place + ", z)", NO_INDEX, x, () -> x.goal(place, 'z'));
        }
        for (char sign : new char[] {'m', '`', 'L', '/', '-', 0, (char) 302}) {
            Check.failsAlone("goal(5, " + (int) sign + ")", NO_ARGUMENT, x, () -> x.goal(5, sign));
        }
        Check.refuses("goal(5, .)", 2, 5, x, () -> x.goal(5, '.'));
        Check.refuses("goal(1, b)", 2, 1, x, () -> x.goal(1, 'b'));
    }

    private static void turnThreeByThree() {
        String[] due = {"cabdefghi", "bcadefghi", "abcfdeghi", "abcefdghi", "abcdefigh", "abcdefhig", "gbcaefdhi",
            "dbcgefahi", "ahcdbfgei", "aecdhfgbi", "abidecghf", "abfdeighc"};
        for (int turn = 0; turn < due.length; turn++) {
            VowelTorus x = new VowelTorus();
            Check.is("turn(" + turn + ")", 6, x.turn(turn));
            Check.is("the letters behind turn " + turn, due[turn], Look.letters(x));
            Check.is("the goal behind turn " + turn, "abcdefghi", Look.goal(x));
            Check.is("the turns made", 1, x.account(2));
        }
    }

    private static void turnOtherBoards() {
        String[] wide = {"cabdef", "bcadef", "abcfde", "abcefd", "dbcaef", "dbcaef", "aecdbf", "aecdbf", "abfdec",
            "abfdec"};
        String[] high = {"bacdef", "bacdef", "abdcef", "abdcef", "abcdfe", "abcdfe", "ebadcf", "cbedaf", "afcbed",
            "adcfeb"};
        String[] small = {"bacd", "bacd", "abdc", "abdc", "cbad", "cbad", "adcb", "adcb"};
        for (int turn = 0; turn < wide.length; turn++) {
            VowelTorus x = Make.puzzle(2, 3, "abcdef", "......");
            Check.is("turn", 6, x.turn(turn));
            Check.is("2 by 3 behind turn " + turn, wide[turn], Look.letters(x));
            x.board(3, 2);
            Check.is("turn", turn < 6 ? 4 : 3, x.turn(turn));
            Check.is("3 by 2 behind turn " + turn, high[turn], Look.letters(x));
        }
        for (int turn = 0; turn < small.length; turn++) {
            VowelTorus x = Make.puzzle(2, 2, "abcd", "abcd");
            Check.is("turn", 2, x.turn(turn));
            Check.is("2 by 2 behind turn " + turn, small[turn], Look.letters(x));
        }
    }

    private static void turnErrors() {
        VowelTorus x = Make.barred(0, 4);
        for (int turn : new int[] {-1, 12, 13, Integer.MAX_VALUE, Integer.MIN_VALUE}) {
            Check.failsAlone("turn(" + turn + ")", NO_INDEX, x, () -> x.turn(turn));
        }
        Check.refuses("turn(0)", 1, 0, x, () -> x.turn(0));
        Check.refuses("turn(9)", 1, 4, x, () -> x.turn(9));
        Check.refuses("turn(8)", 1, 4, x, () -> x.turn(8));
        Check.refuses("turn(1)", 1, 0, x, () -> x.turn(1));
        Check.is("turn(2)", 6, x.turn(2));
        x.board(2, 2);
        Check.failsAlone("turn(8) of 2 by 2", NO_INDEX, x, () -> x.turn(8));
        x.board(2, 3);
        Check.failsAlone("turn(10) of 2 by 3", NO_INDEX, x, () -> x.turn(10));
    }

    private static void swap() {
        VowelTorus x = new VowelTorus();
        Check.is("swap(0, 8)", 7, x.swap(0, 8));
        Check.is("the letters", "ibcdefgha", Look.letters(x));
        Check.is("swap(8, 4)", 6, x.swap(8, 4));
        Check.is("the letters", "ibcdafghe", Look.letters(x));
        Check.is("the swaps", 2, x.account(3));
        Check.is("goals reached", 0, x.account(7));
        x.undo();
        Check.is("swap(8, 0)", 9, x.swap(8, 0));
        Check.is("goals reached", 0, x.account(7));
        x.put(1, 'a');
        Check.is("a swap of letters that are alike", 8, x.swap(0, 1));
        Check.is("the letters", "aacdefghi", Look.letters(x));
        Check.is("the swaps", 3, x.account(3));
    }

    private static void swapErrors() {
        VowelTorus x = Make.puzzle(2, 2, "abcd", "abcd");
        for (int place : new int[] {-1, 4, 9, Integer.MAX_VALUE, Integer.MIN_VALUE}) {
            Check.failsAlone("swap(" + place + ", 0)", NO_INDEX, x, () -> x.swap(place, 0));
            Check.failsAlone("swap(3, " + place + ")", NO_INDEX, x, () -> x.swap(3, place));
            Check.failsAlone("swap(" + place + ", the same)", NO_INDEX, x, () -> x.swap(place, place));
        }
        Check.refuses("swap(3, 3)", 3, 3, x, () -> x.swap(3, 3));
        Check.refuses("swap(0, 0)", 3, 0, x, () -> x.swap(0, 0));
    }

    private static void bar() {
        VowelTorus x = new VowelTorus();
        Check.isTrue("bar(0)", x.bar(0));
        Check.isTrue("bar(5)", x.bar(5));
        Check.is("the bars", "#----#", Look.bars(x));
        Check.isFalse("bar(0) again", x.bar(0));
        Check.is("the bars", "-----#", Look.bars(x));
        Check.is("what can be undone", 3, x.account(9));
        for (int line : new int[] {-1, 6, 31, 32, 37, Integer.MAX_VALUE, Integer.MIN_VALUE}) {
            Check.failsAlone("bar(" + line + ")", NO_INDEX, x, () -> x.bar(line));
        }
        x.board(2, 2);
        Check.failsAlone("bar(4) of 2 by 2", NO_INDEX, x, () -> x.bar(4));
        Check.isTrue("bar(3) of 2 by 2", x.bar(3));
    }

    private static void scramble() {
        VowelTorus x = new VowelTorus();
        // 41, 41 * 73 + 41 = 3034, 34 * 73 + 41 = 2523: the turns 5, 10 and 7.
        Check.is("scramble(0, 3)", 3, x.scramble(0, 3));
        VowelTorus y = new VowelTorus();
        Make.turn(y, 5, 10, 7);
        Check.is("the letters", Look.letters(y), Look.letters(x));
        Check.is("the state behind it", "3 0 1 0", x.account(2) + " " + x.account(3) + " " + x.account(4) + " "
            + x.account(5));
        // 999 * 73 + 41 = 72968: the turn 968 % 8 = 0.
        x.board(2, 2);
        Check.is("scramble(999, 1)", 1, x.scramble(999, 1));
        Check.is("the letters", "bacd", Look.letters(x));
        Check.is("scramble(999, 9)", 9, x.scramble(999, 9));
        Check.is("the turns made", 13, x.account(2));
        Check.is("the scrambles", 3, x.account(4));
        // A goal that a scramble reaches does not count.
        x.board(2, 2);
        x.turn(0);
        x.scramble(999, 1);
        Check.is("the letters", "abcd", Look.letters(x));
        Check.is("goals reached", 0, x.account(7));
    }

    private static void scrambleBarred() {
        VowelTorus x = Make.barred(2);
        Check.is("scramble(0, 3)", 2, x.scramble(0, 3));
        VowelTorus y = new VowelTorus();
        Make.turn(y, 10, 7);
        Check.is("the letters", Look.letters(y), Look.letters(x));
        Check.is("the turns made", 2, x.account(2));
        VowelTorus z = Make.barred(0, 1, 2, 3, 4, 5);
        Check.is("scramble(0, 9), all barred", 0, z.scramble(0, 9));
        Check.is("the scrambles", 1, z.account(4));
        Check.is("what can be undone", 7, z.account(9));
    }

    private static void scrambleErrors() {
        VowelTorus x = Make.barred(2);
        for (int seed : new int[] {-1, 1000, Integer.MAX_VALUE, Integer.MIN_VALUE}) {
            Check.failsAlone("scramble(" + seed + ", 1)", NO_ARGUMENT, x, () -> x.scramble(seed, 1));
        }
        for (int turns : new int[] {-1, 0, 10, Integer.MAX_VALUE, Integer.MIN_VALUE}) {
            Check.failsAlone("scramble(0, " + turns + ")", NO_ARGUMENT, x, () -> x.scramble(0, turns));
        }
    }

    private static void step() {
        VowelTorus x = new VowelTorus();
        Make.turn(x, 0, 6, 9);
        Check.is("away", 3, x.away(false));
        Check.is("step", 7, x.step());
        Check.is("goals reached", 0, x.account(7));
        Check.is("step", 8, x.step());
        Check.is("step", 1, x.step());
        Check.is("the state", "abcdefghi abcdefghi ------ 3x3 9 0 6 0 0 3 0 1 0 6", Look.state(x));
        // Of the turns of two letters, either way is one: the lower is made.
        VowelTorus y = Make.puzzle(2, 2, "bacd", "abcd");
        Check.is("step of 2 by 2", 0, y.step());
        // By a row and then a column, or, if the row is barred, by a column and then a row.
        VowelTorus z = Make.puzzle(3, 3, "abcdefghi", "e........");
        Check.is("step by a row", 3, z.step());
        z.undo();
        z.bar(1);
        Check.is("step beside the bar", 9, z.step());
    }

    private static void stepErrors() {
        VowelTorus x = new VowelTorus();
        Check.refuses("step at the goal", 5, 9, x, x::step);
        x.swap(0, 1);
        Check.refuses("step to an odd goal", 4, 2, x, x::step);
        x.goal(0, 'l');
        Check.refuses("step to a goal with another letter", 4, 2, x, x::step);
        Make.lay(x, 2, 3, "aabcde", "bbaccd");
        Check.refuses("step to a goal with a letter more often", 4, 5, x, x::step);
        Make.lay(x, 2, 2, "aabb", "....");
        Check.refuses("step at a goal of dots", 5, 4, x, x::step);
        VowelTorus y = new VowelTorus();
        Make.turn(y, 0, 6, 9, 2);
        Check.failsAlone("step from 4 turns away", java.util.NoSuchElementException.class, y, y::step);
        VowelTorus z = Make.puzzle(2, 2, "bacd", "abcd");
        for (int line = 0; line < 4; line++) {
            z.bar(line);
        }
        Check.failsAlone("step with all barred", java.util.NoSuchElementException.class, z, z::step);
    }

    private static void letter() {
        VowelTorus x = Make.puzzle(3, 2, "lkabcd", "......");
        Check.is("letter(0)", 'l', x.letter(0));
        Check.is("letter(1)", 'k', x.letter(1));
        Check.is("letter(5)", 'd', x.letter(5));
        for (int place : new int[] {-1, 6, 16, Integer.MAX_VALUE, Integer.MIN_VALUE}) {
            Check.failsAlone("letter(" + place + ")", NO_INDEX, x, () -> x.letter(place));
        }
    }

    private static void sign() {
        VowelTorus x = Make.puzzle(2, 3, "abcdef", "lkj.ab");
        Check.is("sign(0)", 'l', x.sign(0));
        Check.is("sign(3)", '.', x.sign(3));
        Check.is("sign(5)", 'b', x.sign(5));
        for (int place : new int[] {-1, 6, 16, Integer.MAX_VALUE, Integer.MIN_VALUE}) {
            Check.failsAlone("sign(" + place + ")", NO_INDEX, x, () -> x.sign(place));
        }
    }

    private static void isBarred() {
        VowelTorus x = Make.puzzle(2, 3, "abcdef", "abcdef");
        x.bar(4);
        Check.isTrue("isBarred(4)", x.isBarred(4));
        Check.isFalse("isBarred(0)", x.isBarred(0));
        for (int line : new int[] {-1, 5, 36, Integer.MAX_VALUE, Integer.MIN_VALUE}) {
            Check.failsAlone("isBarred(" + line + ")", NO_INDEX, x, () -> x.isBarred(line));
        }
    }

    private static void boardOf() {
        VowelTorus x = Make.puzzle(2, 3, "aaeilk", ".a.e.l");
        x.bar(1);
        x.bar(4);
        int[] due = {2, 3, 10, 6, 5, 4, 3};
        for (int what = 0; what < due.length; what++) {
            Check.is("boardOf(" + what + ")", due[what], x.boardOf(what));
        }
        x.board(3, 2);
        int[] next = {3, 2, 10, 10, 6, 2, 0};
        for (int what = 0; what < next.length; what++) {
            Check.is("boardOf(" + what + ")", next[what], x.boardOf(what));
        }
        Make.lay(x, 2, 2, "llll", "....");
        Check.is("one letter four times", "1 0 4", x.boardOf(4) + " " + x.boardOf(5) + " " + x.boardOf(6));
        for (int what : new int[] {-1, 7, Integer.MAX_VALUE, Integer.MIN_VALUE}) {
            Check.failsAlone("boardOf(" + what + ")", NO_ARGUMENT, x, () -> x.boardOf(what));
        }
    }
}
