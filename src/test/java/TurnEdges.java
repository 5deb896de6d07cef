import java.util.NoSuchElementException;

/** Promises 5 to 9, case by case: what wraps around, is barred, reached or too far, and the first and the last seed. */
final class TurnEdges {
    private static final Class<IndexOutOfBoundsException> NO_INDEX = IndexOutOfBoundsException.class;
    private static final Class<IllegalArgumentException> NO_ARGUMENT = IllegalArgumentException.class;
    private static final Class<NoSuchElementException> NONE = NoSuchElementException.class;
    private static final String NEW = "abcdefghi abcdefghi ------ 3x3";

    private TurnEdges() {
    }

    static void addTo(AllTests all) {
        turnWraps(all);
        turnAnswers(all);
        turnBarred(all);
        swap(all);
        swapRefused(all);
        bar(all);
        barLeaves(all);
        scrambleSeeds(all);
        scrambleTurns(all);
        scrambleBarred(all);
        step(all);
        stepRefused(all);
        stepNone(all);
    }

    // Promise 5.

    private static void turnTo(AllTests all, String name, int rows, int columns, int turn, String due) {
        all.add("5 turn: " + name, () -> {
            VowelTorus x = Make.sized(rows, columns);
            x.turn(turn);
            Check.is("the letters behind turn " + turn, due, Look.letters(x));
        });
    }

    private static void turnWraps(AllTests all) {
        new Edges(all, "5 turn", NO_INDEX).turns((x, turn) -> x.turn(turn));
        turnTo(all, "to the east the last place of the first row goes to its first", 3, 3, 0, "cabdefghi");
        turnTo(all, "to the west the first place of the first row goes to its last", 3, 3, 1, "bcadefghi");
        turnTo(all, "to the east, the last row", 3, 3, 4, "abcdefigh");
        turnTo(all, "to the west, the last row", 3, 3, 5, "abcdefhig");
        turnTo(all, "to the south the last place of the first column goes to its first", 3, 3, 6, "gbcaefdhi");
        turnTo(all, "to the north the first place of the first column goes to its last", 3, 3, 7, "dbcgefahi");
        turnTo(all, "to the south, the last column", 3, 3, 10, "abidecghf");
        turnTo(all, "to the north, the last column", 3, 3, 11, "abfdeighc");
        turnTo(all, "of 2 by 3 to the east, the last row", 2, 3, 2, "abcfde");
        turnTo(all, "of 2 by 3 to the west, the last row", 2, 3, 3, "abcefd");
        turnTo(all, "of 2 by 3 to the south, the first column", 2, 3, 4, "dbcaef");
        turnTo(all, "of 2 by 3 to the north, the last column", 2, 3, 9, "abfdec");
        turnTo(all, "of 3 by 2 to the east, the last row", 3, 2, 4, "abcdfe");
        turnTo(all, "of 3 by 2 to the south, the first column", 3, 2, 6, "ebadcf");
        turnTo(all, "of 3 by 2 to the north, the last column", 3, 2, 9, "adcfeb");
        turnTo(all, "of 2 by 2 to the west, the last row", 2, 2, 3, "abdc");
        turnTo(all, "of 2 by 2 to the south, the first column", 2, 2, 4, "cbad");
        turnTo(all, "of 2 by 2 to the north, the last column", 2, 2, 7, "adcb");
        for (int[] size : Edges.SIZES) {
            int turns = 2 * (size[0] + size[1]);
            all.add("5 turn: of " + size[0] + " by " + size[1] + ", as often as its line is long, goes round", () -> {
                VowelTorus x = Make.sized(size[0], size[1]);
                String before = Look.board(x);
                for (int turn = 0; turn < turns; turn++) {
                    int length = turn < 2 * size[0] ? size[1] : size[0];
                    for (int i = 1; i < length; i++) {
                        x.turn(turn);
                        Check.isFalse("it is the same too early", Look.board(x).equals(before));
                    }
                    Check.is("places at home", size[0] * size[1], x.turn(turn));
                    Check.is("the board", before, Look.board(x));
                }
            });
        }
    }

    private static void turnAnswers(AllTests all) {
        all.add("5 turn: no place is at home then", () -> {
            VowelTorus x = Make.puzzle(2, 2, "abcd", "llll");
            Check.is("turn(0)", 0, x.turn(0));
        });
        all.add("5 turn: all places are at home then", () -> {
            VowelTorus x = Make.puzzle(2, 2, "bacd", "abcd");
            Check.is("turn(0)", 4, x.turn(0));
        });
        all.add("5 turn: reaching the goal counts", () -> {
            VowelTorus x = Make.puzzle(2, 2, "bacd", "abcd");
            x.turn(1);
            Check.is("the counts", "1 0 0 0 1 1", Look.counts(x));
        });
        all.add("5 turn: of a goal that stays reached, it does not count", () -> {
            VowelTorus x = Make.puzzle(2, 2, "aabb", "aa..");
            Check.is("turn(0)", 4, x.turn(0));
            Check.is("turn(2)", 4, x.turn(2));
            Check.is("the counts", "2 0 0 0 1 0", Look.counts(x));
        });
        all.add("5 turn: of letters that are alike is a turn and a change", () -> {
            VowelTorus x = Make.puzzle(2, 2, "llll", "abcd");
            int changes = x.account(9);
            x.turn(7);
            Check.is("the turns made", 1, x.account(2));
            Check.is("what can be undone", Math.min(8, changes + 1), x.account(9));
        });
        all.add("5 turn: leaves the goal, with its dots, and the bars", () -> {
            VowelTorus x = Make.puzzle(3, 3, "abcdefghi", "abc..fghi");
            x.bar(1);
            x.turn(6);
            Check.is("the board", "gbcaefdhi abc..fghi -#---- 3x3", Look.board(x));
        });
        all.add("5 turn: 512 calls", () -> {
            VowelTorus x = new VowelTorus();
            for (int i = 0; i < 510; i++) {
                x.turn(i % 2);
            }
            Check.is("the turns made", 510, x.account(2));
            Check.is("the goals reached", 255, x.account(7));
        });
    }

    private static void turnBarred(AllTests all) {
        for (int[] size : Edges.SIZES) {
            int lines = size[0] + size[1];
            for (int line = 0; line < lines; line++) {
                int barred = line;
                String of = " of line " + line + " of " + size[0] + " by " + size[1];
                all.add("5 turn: refused for reason 1, both turns" + of, () -> {
                    VowelTorus x = Make.sized(size[0], size[1]);
                    x.bar(barred);
                    Check.refuses("the one turn", 1, barred, x, () -> x.turn(2 * barred));
                    Check.refuses("the other turn", 1, barred, x, () -> x.turn(2 * barred + 1));
                });
                all.add("5 turn: not refused, with all barred but one, those" + of, () -> {
                    VowelTorus x = Make.allBarred(size[0], size[1]);
                    x.bar(barred);
                    x.turn(2 * barred);
                    x.turn(2 * barred + 1);
                    Check.is("the turns made", 2, x.account(2));
                    Check.is("the goals reached", 1, x.account(7));
                });
            }
        }
        all.add("5 turn: no such turn comes ahead of a bar", () -> {
            VowelTorus x = Make.allBarred(3, 3);
            Check.failsAlone("turn(12)", NO_INDEX, x, () -> x.turn(12));
            Check.failsAlone("turn(-1)", NO_INDEX, x, () -> x.turn(-1));
        });
        all.add("5 turn: the letters of a barred line are moved by the lines that cross it", () -> {
            VowelTorus x = Make.barred(0, 1, 2);
            Check.is("turn(6)", 6, x.turn(6));
            Check.is("the letters", "gbcaefdhi", Look.letters(x));
        });
        all.add("5 turn: a line that is not barred any more is turned", () -> {
            VowelTorus x = Make.barred(5, 5);
            Check.is("turn(11)", 6, x.turn(11));
        });
        Edges.leavesAll(all, "5 turn: no such turn leaves all", x -> x.turn(12));
        Edges.leavesAll(all, "5 turn: a refused one leaves all", x -> x.turn(3));
    }

    // Promise 6.

    private static void swap(AllTests all) {
        Edges edges = new Edges(all, "6 swap", NO_INDEX);
        edges.places((x, place) -> x.swap(place, place == 0 ? 1 : 0));
        new Edges(all, "6 swap, the other one", NO_INDEX).places((x, place) -> x.swap(place == 0 ? 1 : 0, place));
        all.add("6 swap: of the first and the last place", () -> {
            VowelTorus x = new VowelTorus();
            Check.is("swap(0, 8)", 7, x.swap(0, 8));
            Check.is("the board", "ibcdefgha abcdefghi ------ 3x3", Look.board(x));
        });
        all.add("6 swap: the other way round is the same", () -> {
            VowelTorus x = new VowelTorus();
            Check.is("swap(8, 0)", 7, x.swap(8, 0));
            Check.is("the board", "ibcdefgha abcdefghi ------ 3x3", Look.board(x));
        });
        all.add("6 swap: no place is at home then, or all", () -> {
            VowelTorus x = Make.puzzle(2, 2, "abcd", "llll");
            Check.is("swap(0, 3)", 0, x.swap(0, 3));
            Make.lay(x, 2, 2, "abcd", "dbca");
            Check.is("swap(0, 3)", 4, x.swap(0, 3));
        });
        all.add("6 swap: of letters that are alike is a swap and a change", () -> {
            VowelTorus x = new VowelTorus();
            x.put(8, 'a');
            Check.is("swap(0, 8)", 8, x.swap(0, 8));
            Check.is("the letters", "abcdefgha", Look.letters(x));
            Check.is("the swaps", 1, x.account(3));
            Check.is("what can be undone", 2, x.account(9));
        });
        all.add("6 swap: in lines that are barred", () -> {
            VowelTorus x = Make.allBarred(3, 3);
            Check.is("swap(3, 7)", 7, x.swap(3, 7));
            Check.is("the letters", "abchefgdi", Look.letters(x));
        });
        all.add("6 swap: reaching the goal by it does not count, and it is no turn", () -> {
            VowelTorus x = new VowelTorus();
            x.swap(0, 1);
            Check.is("swap(1, 0)", 9, x.swap(1, 0));
            Check.is("the counts", "0 2 0 0 0 0", Look.counts(x));
        });
    }

    private static void swapRefused(AllTests all) {
        for (int place : new int[] {0, 1, 8}) {
            all.add("6 swap: refused for reason 3, both are place " + place, () -> {
                VowelTorus x = new VowelTorus();
                Check.refuses("swap", 3, place, x, () -> x.swap(place, place));
            });
        }
        all.add("6 swap: no such place comes ahead of both being one", () -> {
            VowelTorus x = Make.used(2, 3);
            Check.failsAlone("swap(6, 6)", NO_INDEX, x, () -> x.swap(6, 6));
            Check.failsAlone("swap(-1, -1)", NO_INDEX, x, () -> x.swap(-1, -1));
        });
        Edges.leavesAll(all, "6 swap: no such place leaves all", x -> x.swap(0, 9));
        Edges.leavesAll(all, "6 swap: a refused one leaves all", x -> x.swap(4, 4));
    }

    // Promise 7.

    private static void bar(AllTests all) {
        new Edges(all, "7 bar", NO_INDEX).lines((x, line) -> x.bar(line));
        for (int[] size : Edges.SIZES) {
            String name = "7 bar: each line of " + size[0] + " by " + size[1] + " alone, and not any more";
            all.add(name, () -> {
                VowelTorus x = Make.sized(size[0], size[1]);
                String none = Look.bars(x);
                for (int line = 0; line < none.length(); line++) {
                    Check.isTrue("bar(" + line + ")", x.bar(line));
                    Check.is("the bars", none.substring(0, line) + "#" + none.substring(line + 1), Look.bars(x));
                    Check.isFalse("bar(" + line + ") again", x.bar(line));
                    Check.is("the bars", none, Look.bars(x));
                }
            });
            all.add("7 bar: all lines of " + size[0] + " by " + size[1], () -> {
                VowelTorus x = Make.allBarred(size[0], size[1]);
                Check.is("the bars", "######".substring(0, size[0] + size[1]), Look.bars(x));
                Check.is("the lines that are barred", size[0] + size[1], x.account(1));
            });
        }
        Edges.leavesAll(all, "7 bar: no such line leaves all", x -> x.bar(6));
    }

    private static void barLeaves(AllTests all) {
        all.add("7 bar: a third time bars again", () -> {
            VowelTorus x = Make.barred(5, 5);
            Check.isTrue("bar(5)", x.bar(5));
            Check.is("what can be undone", 3, x.account(9));
        });
        all.add("7 bar: leaves the letters, the goal and the counts", () -> {
            VowelTorus x = Make.puzzle(2, 2, "llll", "...a");
            x.bar(3);
            Check.is("the board", "llll ...a ---# 2x2", Look.board(x));
            Check.is("the counts", "0 0 0 0 1 0", Look.counts(x));
        });
        all.add("7 bar: puts nothing in the place of the reason", () -> {
            VowelTorus x = Make.barred(0);
            Check.refuses("turn(1)", 1, 0, x, () -> x.turn(1));
            x.bar(0);
            Check.is("the reason", 1, x.refusal(false));
        });
    }

    // Promise 8.

    private static void scrambleTo(AllTests all, String name, int[] size, int seed, int... turns) {
        all.add("8 scramble: " + name, () -> {
            VowelTorus x = Make.sized(size[0], size[1]);
            VowelTorus y = Make.sized(size[0], size[1]);
            Check.is("scramble(" + seed + ", " + turns.length + ")", turns.length, x.scramble(seed, turns.length));
            Make.turn(y, turns);
            Check.is("the letters", Look.letters(y), Look.letters(x));
            Check.is("the counts", turns.length + " 0 1 0 1 0", Look.counts(x));
        });
    }

    private static void scrambleSeeds(AllTests all) {
        Edges edges = new Edges(all, "8 scramble", NO_ARGUMENT);
        edges.numbers("seed", 0, 999, (x, seed) -> x.scramble(seed, 1));
        edges.numbers("number of turns", 1, 9, (x, turns) -> x.scramble(0, turns));
        int[] three = {3, 3};
        // The seeds behind 0 are 41, 34, 523, 220, 101, 414, 263, 240 and 561.
        scrambleTo(all, "the lowest seed and the fewest turns", three, 0, 5);
        scrambleTo(all, "the lowest seed and the most turns", three, 0, 5, 10, 7, 4, 5, 6, 11, 0, 9);
        scrambleTo(all, "of 2 by 2", new int[] {2, 2}, 0, 1, 2, 3, 4, 5, 6, 7, 0, 1);
        scrambleTo(all, "of 2 by 3", new int[] {2, 3}, 0, 1, 4, 3, 0, 1, 4, 3, 0, 1);
        scrambleTo(all, "of 3 by 2", new int[] {3, 2}, 0, 1, 4, 3, 0, 1, 4, 3, 0, 1);
        // Behind 999 come 968 and 705.
        scrambleTo(all, "the highest seed", three, 999, 8, 9);
        scrambleTo(all, "the last seed behind which nothing is divided away, 990", three, 13, 6);
        scrambleTo(all, "the first seed behind which a thousand is divided away, 63", three, 14, 3);
        scrambleTo(all, "the seed becomes 0", three, 383, 0, 5);
        scrambleTo(all, "the seed becomes 999", three, 246, 3, 8);
        all.add("8 scramble: both numbers are wrong", () -> {
            VowelTorus x = Make.used(3, 3);
            Check.failsAlone("scramble(1000, 0)", NO_ARGUMENT, x, () -> x.scramble(1000, 0));
            Check.failsAlone("scramble(-1, 10)", NO_ARGUMENT, x, () -> x.scramble(-1, 10));
        });
    }

    private static void scrambleTurns(AllTests all) {
        all.add("8 scramble: a goal that is reached by it does not count", () -> {
            VowelTorus x = new VowelTorus();
            x.turn(1);
            Check.is("scramble(383, 1)", 1, x.scramble(383, 1));
            Check.is("the letters", "abcdefghi", Look.letters(x));
            Check.is("the counts", "2 0 1 0 0 0", Look.counts(x));
        });
        all.add("8 scramble: the goal that is left by it counts as reached by the next turn", () -> {
            VowelTorus x = new VowelTorus();
            x.scramble(383, 1);
            x.turn(1);
            Check.is("the counts", "2 0 1 0 0 1", Look.counts(x));
        });
        all.add("8 scramble: is one change, however many turns it makes", () -> {
            VowelTorus x = new VowelTorus();
            x.scramble(999, 9);
            Check.is("what can be undone", 1, x.account(9));
            Check.is("undo", 0, x.undo());
            Check.is("the state", NEW + " 9 0 0 0 0 0 0 0 0 0", Look.state(x));
        });
        all.add("8 scramble: the same seed and turns make the same turns again", () -> {
            VowelTorus x = new VowelTorus();
            x.scramble(77, 8);
            VowelTorus y = new VowelTorus();
            y.scramble(999, 9);
            y.board(3, 3);
            y.scramble(77, 8);
            Check.is("the letters", Look.letters(x), Look.letters(y));
        });
        Edges.leavesAll(all, "8 scramble: no such seed leaves all", x -> x.scramble(1000, 9));
        Edges.leavesAll(all, "8 scramble: so many turns leave all", x -> x.scramble(5, 10));
    }

    private static void scrambleBarred(AllTests all) {
        int[][] left = {{2, 10, 7}, {5, 5, 7}, {3, 5, 10}};
        String[] names = {"first", "second", "last"};
        for (int i = 0; i < left.length; i++) {
            int[] turns = left[i];
            all.add("8 scramble: the " + names[i] + " turn is of a barred line and is left out", () -> {
                VowelTorus x = Make.barred(turns[0]);
                VowelTorus y = new VowelTorus();
                Check.is("scramble(0, 3)", 2, x.scramble(0, 3));
                Make.turn(y, turns[1], turns[2]);
                Check.is("the letters", Look.letters(y), Look.letters(x));
                Check.is("the turns made", 2, x.account(2));
            });
        }
        all.add("8 scramble: with all barred makes no turn, but is a scramble and a change", () -> {
            VowelTorus x = Make.allBarred(2, 2);
            Check.is("scramble(0, 9)", 0, x.scramble(0, 9));
            Check.is("the letters", "abcd", Look.letters(x));
            Check.is("the counts", "0 0 1 0 1 0", Look.counts(x));
            Check.is("what can be undone", 6, x.account(9));
            Check.fails("refusal", NONE, () -> x.refusal(false));
        });
        all.add("8 scramble: a barred line is no refusal", () -> {
            VowelTorus x = Make.barred(2);
            x.scramble(0, 1);
            Check.fails("refusal", NONE, () -> x.refusal(false));
        });
    }

    // Promise 9.

    private static void step(AllTests all) {
        all.add("9 step: from 1 turn away reaches the goal, which counts", () -> {
            VowelTorus x = new VowelTorus();
            x.turn(11);
            Check.is("step", 10, x.step());
            Check.is("the board", NEW, Look.board(x));
            Check.is("the counts", "2 0 0 1 0 1", Look.counts(x));
        });
        all.add("9 step: by the first turn there is", () -> {
            VowelTorus x = new VowelTorus();
            x.turn(1);
            Check.is("step", 0, x.step());
            Check.is("the board", NEW, Look.board(x));
        });
        all.add("9 step: from 2 turns away does not reach it", () -> {
            VowelTorus x = new VowelTorus();
            Make.turn(x, 11, 2);
            Check.is("step", 3, x.step());
            Check.is("the letters", "abfdeighc", Look.letters(x));
            Check.is("the counts", "3 0 0 1 0 0", Look.counts(x));
        });
        all.add("9 step: from 3 turns away, the most", () -> {
            VowelTorus x = new VowelTorus();
            Make.turn(x, 0, 6, 9);
            Check.is("step", 7, x.step());
            Check.is("away", 2, x.away(true));
            Check.is("the counts", "4 0 0 1 0 0", Look.counts(x));
        });
        all.add("9 step: is one change", () -> {
            VowelTorus x = new VowelTorus();
            x.turn(0);
            x.step();
            Check.is("what can be undone", 2, x.account(9));
            x.undo();
            Check.is("the letters", "cabdefghi", Look.letters(x));
            Check.is("the counts", "1 0 0 0 0 0", Look.counts(x));
        });
        all.add("9 step: the lowest of several turns", () -> {
            VowelTorus x = Make.puzzle(2, 2, "abdc", "abcd");
            Check.is("step", 2, x.step());
        });
        all.add("9 step: round a bar, by more turns", () -> {
            VowelTorus x = Make.puzzle(3, 3, "abcdefghi", "b........");
            x.bar(0);
            Check.is("step", 8, x.step());
            Check.is("step", 3, x.step());
            Check.is("step", 7, x.step());
            Check.is("letter(0)", 'b', x.letter(0));
            Check.is("the goals reached", 1, x.account(7));
        });
    }

    private static void stepRefused(AllTests all) {
        for (int[] size : Edges.SIZES) {
            all.add("9 step: refused for reason 5, the goal of " + size[0] + " by " + size[1] + " is reached", () -> {
                VowelTorus x = Make.sized(size[0], size[1]);
                Check.refuses("step", 5, size[0] * size[1], x, x::step);
            });
        }
        all.add("9 step: refused for reason 5, a goal of . alone is reached", () -> {
            VowelTorus x = Make.puzzle(2, 3, "abcdef", "......");
            Check.refuses("step", 5, 6, x, x::step);
        });
        all.add("9 step: refused for reason 5 with all barred", () -> {
            VowelTorus x = Make.allBarred(2, 2);
            Check.refuses("step", 5, 4, x, x::step);
        });
        all.add("9 step: refused for reason 4, an odd number of swaps", () -> {
            VowelTorus x = new VowelTorus();
            x.swap(0, 8);
            Check.refuses("step", 4, 2, x, x::step);
        });
        all.add("9 step: refused for reason 4, one place is not at home", () -> {
            VowelTorus x = new VowelTorus();
            x.goal(8, 'l');
            Check.refuses("step", 4, 1, x, x::step);
        });
        all.add("9 step: refused for reason 4, no place is at home", () -> {
            VowelTorus x = Make.puzzle(3, 3, "abcdefghi", "lllllllll");
            Check.refuses("step", 4, 9, x, x::step);
        });
        all.add("9 step: refused for reason 4, places with . are at home", () -> {
            VowelTorus x = Make.puzzle(2, 2, "abcd", "l...");
            Check.refuses("step", 4, 1, x, x::step);
        });
        all.add("9 step: refused for reason 4 ahead of the goal being too far, with all barred", () -> {
            VowelTorus x = Make.puzzle(2, 2, "abcd", "aacd");
            Make.bar(x, 0, 1, 2, 3);
            Check.refuses("step", 4, 1, x, x::step);
        });
        Edges.leavesAll(all, "9 step: a refused one leaves all", VowelTorus::step);
    }

    private static void stepNone(AllTests all) {
        all.add("9 step: from 4 turns away, which is too far", () -> {
            VowelTorus x = new VowelTorus();
            Make.turn(x, 0, 6, 9, 2);
            Check.failsAlone("step", NONE, x, x::step);
        });
        all.add("9 step: with all barred, to a goal that is not out of reach", () -> {
            VowelTorus x = Make.puzzle(3, 3, "bcadefghi", "abcdefghi");
            Make.bar(x, 0, 1, 2, 3, 4, 5);
            Check.failsAlone("step", NONE, x, x::step);
        });
        all.add("9 step: too far keeps the reason before", () -> {
            VowelTorus x = new VowelTorus();
            Make.turn(x, 0, 6, 9, 2);
            Check.refuses("swap(3, 3)", 3, 3, x, () -> x.swap(3, 3));
            Check.failsAlone("step", NONE, x, x::step);
            Check.is("the reason", 3, x.refusal(false));
        });
        all.add("9 step: too far leaves what can be undone and the snapshot", () -> {
            VowelTorus x = new VowelTorus();
            VowelTorus y = new VowelTorus();
            for (VowelTorus each : new VowelTorus[] {x, y}) {
                each.save();
                Make.turn(each, 0, 6, 9, 2);
            }
            Check.fails("step", NONE, x::step);
            Check.is("all behind it", Look.toTheEnd(y), Look.toTheEnd(x));
        });
    }
}
