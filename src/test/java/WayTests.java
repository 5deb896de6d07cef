import java.util.NoSuchElementException;

/** Promises 14 to 22: ways and homes. */
final class WayTests {
    private static final Class<IndexOutOfBoundsException> NO_INDEX = IndexOutOfBoundsException.class;
    private static final Class<NoSuchElementException> NONE = NoSuchElementException.class;

    private WayTests() {
    }

    static void addTo(AllTests all) {
        all.add("14 away", WayTests::away);
        all.add("14 away round bars", WayTests::awayBarred);
        all.add("14 away with dots and letters alike", WayTests::awayDots);
        all.add("14 away, all rows of 3 turns", WayTests::awayAll);
        all.add("15 firstTurn", WayTests::firstTurn);
        all.add("15 firstTurn is the lowest", WayTests::firstTurnLowest);
        all.add("15 firstTurn: none", WayTests::firstTurnNone);
        all.add("16 isOut by letters", WayTests::isOutByLetters);
        all.add("16 isOut by parity", WayTests::isOutByParity);
        all.add("16 isOut with one dot", WayTests::isOutOneDot);
        all.add("17 isOdd", WayTests::isOdd);
        all.add("17 isOdd: none", WayTests::isOddNone);
        all.add("18 home", WayTests::home);
        all.add("19 would", WayTests::would);
        all.add("20 best", WayTests::best);
        all.add("21 where", WayTests::where);
        all.add("21 where: errors", WayTests::whereErrors);
        all.add("22 far", WayTests::far);
    }

    private static void isAway(String what, int due, VowelTorus x) {
        Check.is(what + " by halves", due, x.away(false));
        Check.is(what + " by all", due, x.away(true));
    }

    private static void isTooFar(String what, VowelTorus x) {
        Check.failsAlone(what + " by halves", NONE, x, () -> x.away(false));
        Check.failsAlone(what + " by all", NONE, x, () -> x.away(true));
    }

    private static void away() {
        VowelTorus x = new VowelTorus();
        isAway("at the goal", 0, x);
        x.turn(11);
        isAway("1 turn away", 1, x);
        x.turn(11);
        isAway("1 turn back away", 1, x);
        x.turn(2);
        isAway("2 turns away", 2, x);
        x.turn(8);
        isAway("3 turns away", 3, x);
        x.turn(1);
        isTooFar("4 turns away", x);
        Make.lay(x, 2, 2, "dcba", "abcd");
        isTooFar("2 by 2 turned round", x);
        Make.lay(x, 2, 2, "badc", "abcd");
        isAway("2 by 2, both rows turned", 2, x);
    }

    private static void awayBarred() {
        VowelTorus x = new VowelTorus();
        x.turn(0);
        x.bar(0);
        isTooFar("behind a bar", x);
        x.bar(0);
        isAway("behind no bar", 1, x);
        VowelTorus y = Make.puzzle(3, 3, "abcdefghi", "abcdefghi");
        Make.turn(y, 2, 4, 10);
        isAway("3 turns away", 3, y);
        y.bar(2);
        isTooFar("3 turns away behind a bar", y);
        // A bar of a line that no way needs does not matter.
        y.bar(2);
        y.bar(0);
        isAway("3 turns away beside a bar", 3, y);
        VowelTorus all = Make.barred(0, 1, 2, 3, 4, 5);
        isAway("at the goal, all barred", 0, all);
        all.swap(0, 1);
        all.swap(1, 2);
        isTooFar("all barred", all);
        // Only the last turn of the row is by a line that nothing else can stand for.
        VowelTorus last = new VowelTorus();
        Make.turn(last, 6, 3, 0);
        isAway("3 turns away", 3, last);
        last.bar(3);
        isTooFar("the last one barred", last);
    }

    private static void awayDots() {
        VowelTorus x = Make.puzzle(3, 3, "abcdefghi", ".........");
        isAway("dots alone", 0, x);
        Make.lay(x, 3, 3, "abcdefghi", "b........");
        isAway("one letter", 1, x);
        Make.lay(x, 3, 3, "abcdefghi", "e........");
        isAway("one letter aslant", 2, x);
        Make.lay(x, 3, 3, "aabcdefgh", "baa......");
        isAway("letters that are alike", 1, x);
        Make.lay(x, 2, 3, "aaabbb", "bbbaaa");
        isAway("rows for each other", 3, x);
        Make.lay(x, 2, 3, "abcdef", "abcdel");
        isTooFar("a letter that is not there", x);
    }

    /** Both ways are alike, and a turn changes how far it is by one at most. */
    private static void awayAll() {
        for (int row = 0; row < 12 * 12 * 12; row++) {
            VowelTorus x = new VowelTorus();
            Make.turn(x, row / 144, row / 12 % 12, row % 12);
            Check.isTrue("3 turns away at most", x.away(false) <= 3);
            Check.is("by both ways", x.away(true), x.away(false));
        }
    }

    private static void firstTurnLowest() {
        String[] goals = {"abcdefghi", "a.c.e.g.i", "..cd..gh.", "i.......a"};
        for (int row = 0; row < 4 * 12 * 12; row++) {
            VowelTorus x = Make.puzzle(3, 3, "abcdefghi", goals[row / 144]);
            Make.turn(x, row / 12 % 12, row % 12, row % 11);
            x.bar(row % 7 == 6 ? 2 : row % 7);
            isLowest(x);
        }
    }

    /** A first turn is one behind which the goal is one turn less away. */
    private static void isLowest(VowelTorus x) {
        String away = Check.answer(() -> x.away(true));
        Check.is("away by halves", away, Check.answer(() -> x.away(false)));
        if (away.startsWith("throws") || away.equals("0")) {
            Check.fails("firstTurn", NONE, x::firstTurn);
            return;
        }
        int less = Integer.parseInt(away) - 1;
        int lowest = 0;
        while (x.isBarred(lowest / 2) || !isAwayBehind(x, lowest, less)) {
            lowest++;
        }
        Check.is("firstTurn of " + Look.board(x), lowest, x.firstTurn());
    }

    private static boolean isAwayBehind(VowelTorus x, int turn, int less) {
        x.turn(turn);
        String away = Check.answer(() -> x.away(true));
        x.undo();
        return away.equals(String.valueOf(less));
    }

    private static void firstTurn() {
        for (int turn = 0; turn < 12; turn++) {
            VowelTorus x = new VowelTorus();
            x.turn(turn);
            Check.is("the turn that turns " + turn + " back", turn ^ 1, x.firstTurn());
        }
        // Turns of different rows can be made in any order, so the lowest is told.
        VowelTorus y = new VowelTorus();
        Make.turn(y, 2, 0, 4);
        Check.is("of three rows", 1, y.firstTurn());
        y.turn(1);
        Check.is("of two rows", 3, y.firstTurn());
        VowelTorus z = Make.puzzle(2, 3, "aaabbb", "bbbaaa");
        Check.is("of three columns", 4, z.firstTurn());
        z.bar(2);
        Check.fails("of three columns, one barred", NONE, z::firstTurn);
        VowelTorus one = Make.puzzle(3, 3, "abcdefghi", "e........");
        Check.is("of several ways", 3, one.firstTurn());
        one.bar(1);
        Check.is("of several ways beside a bar", 9, one.firstTurn());
        Check.is("and 2 away", 2, one.away(false));
        one.turn(9);
        Check.is("of one more way", 1, one.firstTurn());
    }

    private static void firstTurnNone() {
        VowelTorus x = new VowelTorus();
        Check.failsAlone("firstTurn at the goal", NONE, x, x::firstTurn);
        Make.turn(x, 11, 2, 8, 1);
        Check.failsAlone("firstTurn from too far", NONE, x, x::firstTurn);
        Make.lay(x, 2, 2, "abcd", "abce");
        Check.failsAlone("firstTurn to a goal out of reach", NONE, x, x::firstTurn);
        Make.lay(x, 2, 2, "abcd", "....");
        Check.failsAlone("firstTurn at dots", NONE, x, x::firstTurn);
    }

    private static void isOut(String what, boolean due, VowelTorus x, int rows, int columns, String letters,
            String goal) {
        Make.lay(x, rows, columns, letters, goal);
        Check.is("isOut of " + what, due, x.isOut());
    }

    private static void isOutByLetters() {
        VowelTorus x = new VowelTorus();
        isOut("the same", false, x, 2, 2, "abcd", "dcba");
        isOut("another letter", true, x, 2, 2, "abcd", "abcl");
        isOut("a letter twice", true, x, 2, 2, "abcd", "a.a.");
        isOut("a letter twice on both", false, x, 2, 2, "abca", "a.a.");
        isOut("a letter three times", true, x, 2, 2, "abca", "aa.a");
        isOut("the last letter", true, x, 3, 3, "abcdefghi", "l........");
        isOut("the first letter", true, x, 3, 3, "bbcdefghi", "a........");
        isOut("dots alone", false, x, 3, 3, "abcdefghi", ".........");
        isOut("fewer of a letter", false, x, 3, 2, "aaabcd", "a.....");
    }

    private static void isOutByParity() {
        VowelTorus x = new VowelTorus();
        isOut("no swap", false, x, 3, 3, "abcdefghi", "abcdefghi");
        isOut("one swap", true, x, 3, 3, "abcdefghi", "bacdefghi");
        isOut("one swap far off", true, x, 3, 3, "abcdefghi", "ibcdefgha");
        isOut("two swaps", false, x, 3, 3, "abcdefghi", "badcefghi");
        isOut("two swaps of three", false, x, 3, 3, "abcdefghi", "bcadefghi");
        isOut("three swaps of four", true, x, 3, 3, "abcdefghi", "bcdaefghi");
        isOut("eight swaps", false, x, 3, 3, "abcdefghi", "bcdefghia");
        isOut("one swap of other letters", true, x, 3, 3, "lkjihgfed", "kljihgfed");
        isOut("two letters alike", false, x, 3, 3, "aacdefghi", "aacdefgih");
        isOut("one swap of 2 by 3", false, x, 2, 3, "abcdef", "bacdef");
        isOut("one swap of 3 by 2", false, x, 3, 2, "abcdef", "bacdef");
        isOut("one swap of 2 by 2", false, x, 2, 2, "abcd", "bacd");
        // Bars do not matter for it, on either side.
        VowelTorus y = Make.barred(0, 1, 2, 3, 4, 5);
        Make.turn(y);
        y.swap(0, 1);
        Check.isTrue("isOut behind bars", y.isOut());
        y.swap(1, 2);
        Check.isFalse("isOut behind bars", y.isOut());
    }

    private static void isOutOneDot() {
        VowelTorus x = new VowelTorus();
        isOut("one dot at home", false, x, 3, 3, "abcdefghi", "abcdefgh.");
        isOut("one dot, one swap with it", true, x, 3, 3, "abcdefghi", ".acdefghi");
        isOut("one dot, one swap beside it", true, x, 3, 3, "abcdefghi", "bacdefgh.");
        isOut("one dot, two swaps", false, x, 3, 3, "abcdefghi", "ba.cefghi");
        isOut("one dot for the first letter", true, x, 3, 3, "abcdefghi", "b.cdefghi");
        isOut("one dot for the first letter, at home", false, x, 3, 3, "abcdefghi", ".bcdefghi");
        isOut("one dot for the last letter", true, x, 3, 3, "lbcdefghi", "b.cdefghi");
        isOut("two dots, one swap", false, x, 3, 3, "abcdefghi", "..bdefghi");
        isOut("two dots, one swap beside", false, x, 3, 3, "abcdefghi", "bacdefg..");
        isOut("one dot, letters alike", false, x, 3, 3, "aacdefghi", "a.cdefgih");
        isOut("one dot, another letter", true, x, 3, 3, "abcdefghi", "abcdefgl.");
        isOut("one dot and a letter twice", true, x, 3, 3, "abcdefghi", "abcdefaa.");
    }

    private static void isOdd(String what, boolean due, VowelTorus x, int rows, int columns, String letters,
            String goal) {
        Make.lay(x, rows, columns, letters, goal);
        Check.is("isOdd by cycles of " + what, due, x.isOdd(false));
        Check.is("isOdd by pairs of " + what, due, x.isOdd(true));
    }

    private static void isOdd() {
        VowelTorus x = new VowelTorus();
        isOdd("no swap", false, x, 3, 3, "abcdefghi", "abcdefghi");
        isOdd("one swap", true, x, 3, 3, "abcdefghi", "abcdefgih");
        isOdd("one swap far off", true, x, 3, 3, "abcdefghi", "ibcdefgha");
        isOdd("two swaps", false, x, 3, 3, "abcdefghi", "badcefghi");
        isOdd("three of four", true, x, 3, 3, "abcdefghi", "bcdaefghi");
        isOdd("turned round", false, x, 3, 3, "abcdefghi", "ihgfedcba");
        isOdd("2 by 3", true, x, 2, 3, "abcdef", "fedcba");
        isOdd("3 by 2", false, x, 3, 2, "lkjihg", "kjlihg");
        isOdd("2 by 2", true, x, 2, 2, "abcd", "bacd");
        isOdd("2 by 2, all of four", true, x, 2, 2, "abcd", "bcda");
        isOdd("2 by 2, two swaps", false, x, 2, 2, "abcd", "dcba");
    }

    private static void isOddNone(String what, VowelTorus x, int rows, int columns, String letters, String goal) {
        Make.lay(x, rows, columns, letters, goal);
        Check.failsAlone("isOdd by cycles of " + what, NONE, x, () -> x.isOdd(false));
        Check.failsAlone("isOdd by pairs of " + what, NONE, x, () -> x.isOdd(true));
    }

    private static void isOddNone() {
        VowelTorus x = new VowelTorus();
        isOddNone("a dot", x, 3, 3, "abcdefghi", "abcdefgh.");
        isOddNone("another letter", x, 3, 3, "abcdefghi", "abcdefghl");
        isOddNone("a dot ahead of all", x, 2, 2, "abcd", ".bcd");
        isOddNone("another letter ahead of all", x, 2, 2, "abcd", "lbcd");
        isOddNone("letters alike", x, 2, 2, "abca", "abca");
        isOddNone("letters alike on the board", x, 2, 2, "aabc", "abcd");
        isOddNone("letters alike in the goal", x, 2, 2, "abcd", "abcc");
        isOddNone("dots alone", x, 2, 2, "abcd", "....");
    }

    private static void home() {
        VowelTorus x = new VowelTorus();
        Check.is("home", 9, x.home());
        Make.lay(x, 3, 3, "bacdefghi", "abcdefghi");
        Check.is("home", 7, x.home());
        x.goal(0, '.');
        Check.is("home with a dot", 8, x.home());
        Make.lay(x, 2, 3, "aaaaaa", "bbbbbb");
        Check.is("none at home", 0, x.home());
        Make.lay(x, 3, 2, "llllll", "lll..a");
        Check.is("home", 5, x.home());
    }

    private static void would() {
        VowelTorus x = new VowelTorus();
        x.turn(0);
        int[] due = {6, 9, 3, 3, 3, 3, 4, 4, 4, 4, 4, 4};
        for (int turn = 0; turn < due.length; turn++) {
            Check.is("would(" + turn + ")", due[turn], x.would(turn));
        }
        x.bar(0);
        Check.is("would(1), barred", 9, x.would(1));
        Check.is("home", 6, x.home());
        Check.is("the letters", "cabdefghi", Look.letters(x));
        for (int turn : new int[] {-1, 12, Integer.MAX_VALUE, Integer.MIN_VALUE}) {
            Check.failsAlone("would(" + turn + ")", NO_INDEX, x, () -> x.would(turn));
        }
        Make.lay(x, 2, 2, "bacd", "abc.");
        Check.is("would(0) of 2 by 2", 4, x.would(0));
        Check.is("would(2) of 2 by 2", 1, x.would(2));
        Check.failsAlone("would(8) of 2 by 2", NO_INDEX, x, () -> x.would(8));
    }

    private static void best() {
        VowelTorus x = new VowelTorus();
        Check.is("best at the goal", 0, x.best());
        Make.turn(x, 11);
        Check.is("best", 10, x.best());
        x.bar(5);
        Check.is("best beside the bar", 0, x.best());
        for (int line : new int[] {0, 1, 2, 3}) {
            x.bar(line);
        }
        Check.is("best of one line", 8, x.best());
        x.bar(4);
        Check.failsAlone("best, all barred", NONE, x, x::best);
        Make.lay(x, 2, 2, "aaaa", "bbbb");
        Check.is("best of turns that bring nothing home", 0, x.best());
        x.bar(0);
        Check.is("best of them beside a bar", 2, x.best());
        Make.lay(x, 2, 3, "abcdef", "decabf");
        Check.is("best of columns", 4, x.best());
    }

    private static void where() {
        VowelTorus x = Make.barred(0, 3);
        int[][] due = {{0, 0, 1, 1}, {2, 0, 1, 0}, {1, 0, 2, 0}, {0, 1, 1, 2}, {1, 1, 1, 0}, {3, 0, 50, 3},
            {0, 0, 0, 0}, {8, 11, 0, 8}, {0, 6, 1, 3}, {6, 6, 1, 0}, {0, 7, 1, 6}, {4, 8, 2, 1}, {8, 4, 1, 6},
            {8, 10, 1, 2}, {8, 10, 99, 8}, {8, 10, 98, 5}, {8, 11, 98, 2}, {8, 8, 98, 8}};
        isWhere(x, due);
        x.board(2, 3);
        isWhere(x, new int[][] {{0, 4, 1, 3}, {3, 4, 1, 0}, {5, 8, 99, 2}, {5, 9, 98, 5}, {3, 2, 1, 4}, {3, 3, 1, 5}});
        x.board(3, 2);
        isWhere(x, new int[][] {{0, 0, 99, 1}, {1, 0, 1, 0}, {0, 6, 1, 2}, {5, 8, 1, 1}, {5, 9, 1, 3}, {4, 5, 3, 5}});
        Check.is("the letters stay", "abcdef", Look.letters(x));
    }

    private static void isWhere(VowelTorus x, int[][] rows) {
        for (int[] row : rows) {
            Check.is("where(" + row[0] + ", " + row[1] + ", " + row[2] + ")", row[3], x.where(row[0], row[1], row[2]));
        }
    }

    private static void whereErrors() {
        VowelTorus x = Make.puzzle(2, 2, "abcd", "abcd");
        for (int wrong : new int[] {-1, 8, Integer.MAX_VALUE, Integer.MIN_VALUE}) {
            Check.failsAlone("where(" + wrong + ", 0, 0)", NO_INDEX, x, () -> x.where(wrong, 0, 0));
            Check.failsAlone("where(0, " + wrong + ", 0)", NO_INDEX, x, () -> x.where(0, wrong, 0));
            Check.failsAlone("where(0, " + wrong + ", 100)", NO_INDEX, x, () -> x.where(0, wrong, 100));
        }
        Check.failsAlone("where(4, 0, -1)", NO_INDEX, x, () -> x.where(4, 0, -1));
        for (int times : new int[] {-1, 100, Integer.MAX_VALUE, Integer.MIN_VALUE}) {
            Check.failsAlone("where(0, 0, " + times + ")", IllegalArgumentException.class, x,
                () -> x.where(0, 0, times));
        }
    }

    private static void far() {
        VowelTorus x = new VowelTorus();
        int[][] due = {{0, 0, 0}, {0, 1, 1}, {0, 2, 1}, {0, 3, 1}, {0, 6, 1}, {0, 4, 2}, {0, 8, 2}, {2, 6, 2},
            {4, 8, 2}, {3, 5, 1}, {5, 7, 2}, {8, 8, 0}};
        isFar(x, due);
        x.board(2, 3);
        isFar(x, new int[][] {{0, 3, 1}, {0, 2, 1}, {0, 5, 2}, {1, 3, 2}, {3, 5, 1}});
        x.board(3, 2);
        isFar(x, new int[][] {{0, 1, 1}, {0, 4, 1}, {0, 5, 2}, {1, 2, 2}, {2, 3, 1}});
        x.board(2, 2);
        isFar(x, new int[][] {{0, 3, 2}, {0, 2, 1}, {1, 2, 2}, {2, 3, 1}});
        for (int place : new int[] {-1, 4, Integer.MAX_VALUE, Integer.MIN_VALUE}) {
            Check.failsAlone("far(" + place + ", 0)", NO_INDEX, x, () -> x.far(place, 0));
            Check.failsAlone("far(0, " + place + ")", NO_INDEX, x, () -> x.far(0, place));
        }
    }

    private static void isFar(VowelTorus x, int[][] rows) {
        for (int[] row : rows) {
            Check.is("far(" + row[0] + ", " + row[1] + ")", row[2], x.far(row[0], row[1]));
            Check.is("far(" + row[1] + ", " + row[0] + ")", row[2], x.far(row[1], row[0]));
        }
    }
}
