import java.util.function.Supplier;

/** Promises 1 to 4 and 10 to 13, case by case: sizes, places, letters and signs, the first and the last. */
final class BoardEdges {
    private static final Class<IndexOutOfBoundsException> NO_INDEX = IndexOutOfBoundsException.class;
    private static final Class<IllegalArgumentException> NO_ARGUMENT = IllegalArgumentException.class;
    private static final String NEW = "abcdefghi abcdefghi ------ 3x3";
    private static final String LETTERS = "abcdefghijkl";
    private static final String DOTS = ".........";

    private BoardEdges() {
    }

    static void addTo(AllTests all) {
        newObject(all);
        boardSizes(all);
        boardLays(all);
        boardLeaves(all);
        put(all);
        putRefused(all);
        goal(all);
        goalRefused(all);
        asked(all);
        boardOf(all);
        boardOfLetters(all);
    }

    // Promise 1.

    private static void newObject(AllTests all) {
        all.add("1 VowelTorus: 3 rows and 3 columns, with letters from a, and these as the goal", () ->
            Check.is("the board", NEW, Look.board(new VowelTorus())));
        all.add("1 VowelTorus: as by board", () ->
            Check.is("the board", Look.board(Make.sized(3, 3)), Look.board(new VowelTorus())));
        all.add("1 VowelTorus: the first board is not counted", () ->
            Check.is("the boards made", 0, new VowelTorus().account(6)));
        all.add("1 VowelTorus: all counts are 0", () ->
            Check.is("the counts", "0 0 0 0 0 0", Look.counts(new VowelTorus())));
        all.add("1 VowelTorus: is no change", () -> {
            VowelTorus x = new VowelTorus();
            Check.is("what can be undone", 0, x.account(9));
            Check.failsAlone("undo", IllegalStateException.class, x, x::undo);
        });
        all.add("1 VowelTorus: takes no snapshot", () -> {
            VowelTorus x = new VowelTorus();
            Check.failsAlone("restore", IllegalStateException.class, x, x::restore);
        });
        all.add("1 VowelTorus: no line is barred", () ->
            Check.is("the bars", "------", Look.bars(new VowelTorus())));
        all.add("1 VowelTorus: the input and the line are empty", () -> {
            VowelTorus x = new VowelTorus();
            Check.is("the characters in the input", 0, x.account(8));
            Check.is("the line", "", Look.line(x));
        });
        all.add("1 VowelTorus: shares nothing with another one", () -> {
            VowelTorus x = new VowelTorus();
            VowelTorus y = Make.rich();
            Check.is("the state", NEW + " 9 0 0 0 0 0 0 0 0 0", Look.state(x));
            Check.is("the state of the next one", NEW + " 9 0 0 0 0 0 0 0 0 0", Look.state(new VowelTorus()));
            Check.is("the changes of the other one", 8, y.account(9));
        });
    }

    // Promise 2.

    private static void boardSizes(AllTests all) {
        Edges edges = new Edges(all, "2 board", NO_ARGUMENT);
        edges.numbers("rows", 2, 3, (x, rows) -> x.board(rows, 2));
        edges.numbers("rows with 3 columns", 2, 3, (x, rows) -> x.board(rows, 3));
        edges.numbers("columns", 2, 3, (x, columns) -> x.board(2, columns));
        edges.numbers("columns with 3 rows", 2, 3, (x, columns) -> x.board(3, columns));
        edges.numbers("rows and columns", 2, 3, (x, both) -> x.board(both, both));
        for (int[] size : Edges.SIZES) {
            all.add("2 board: " + size[0] + " by " + size[1] + " has as many places", () ->
                Check.is("board", size[0] * size[1], new VowelTorus().board(size[0], size[1])));
        }
        all.add("2 board: one number that is allowed is not enough", () -> {
            VowelTorus x = Make.rich();
            Check.failsAlone("board(3, 1)", NO_ARGUMENT, x, () -> x.board(3, 1));
            Check.failsAlone("board(4, 2)", NO_ARGUMENT, x, () -> x.board(4, 2));
            Check.failsAlone("board(1, 4)", NO_ARGUMENT, x, () -> x.board(1, 4));
        });
    }

    private static void boardLays(AllTests all) {
        String[] due = {"abcd abcd ---- 2x2", "abcdef abcdef ----- 2x3", "abcdef abcdef ----- 3x2", NEW};
        for (int i = 0; i < due.length; i++) {
            int[] size = Edges.SIZES[i];
            String lays = due[i];
            all.add("2 board: " + size[0] + " by " + size[1] + " behind another board", () -> {
                VowelTorus x = Make.puzzle(3, 3, "lkjlkjlkj", "lll......");
                Make.bar(x, 0, 1, 2, 3, 4, 5);
                x.board(size[0], size[1]);
                Check.is("the board", lays, Look.board(x));
            });
        }
        all.add("2 board: of the same size is a new one too", () -> {
            VowelTorus x = Make.barred(2);
            x.turn(0);
            Check.is("board(3, 3)", 9, x.board(3, 3));
            Check.is("the board", NEW, Look.board(x));
            Check.is("the boards made", 1, x.account(6));
        });
        all.add("2 board: one after the other leaves nothing of those before", () -> {
            VowelTorus x = Make.allBarred(3, 3);
            x.put(8, 'l');
            x.goal(8, '.');
            x.board(2, 2);
            x.board(3, 3);
            Check.is("the board", NEW, Look.board(x));
        });
        all.add("2 board: the places, lines and turns of a larger one are not there", () -> {
            VowelTorus x = new VowelTorus();
            x.board(2, 2);
            Check.failsAlone("letter(4)", NO_INDEX, x, () -> x.letter(4));
            Check.failsAlone("isBarred(4)", NO_INDEX, x, () -> x.isBarred(4));
            Check.failsAlone("turn(8)", NO_INDEX, x, () -> x.turn(8));
        });
        all.add("2 board: those of a larger one are there again", () -> {
            VowelTorus x = Make.sized(2, 2);
            x.board(3, 3);
            Check.is("letter(8)", 'i', x.letter(8));
            Check.isFalse("isBarred(5)", x.isBarred(5));
            Check.is("turn(11)", 6, x.turn(11));
        });
    }

    private static void boardLeaves(AllTests all) {
        all.add("2 board: leaves the counts of turns, swaps, scrambles, steps and goals reached", () -> {
            VowelTorus x = new VowelTorus();
            Make.turn(x, 0);
            x.step();
            x.swap(0, 1);
            x.scramble(0, 2);
            Check.is("the counts ahead of it", "4 1 1 1 0 1", Look.counts(x));
            x.board(2, 3);
            Check.is("the counts behind it", "4 1 1 1 1 1", Look.counts(x));
        });
        all.add("2 board: its goal, which is reached, does not count as reached", () -> {
            VowelTorus x = new VowelTorus();
            x.turn(0);
            x.board(3, 3);
            Check.is("away", 0, x.away(false));
            Check.is("the goals reached", 0, x.account(7));
        });
        all.add("2 board: leaves the input, the line, the error position and the reason", () -> {
            VowelTorus x = Make.used(3, 3);
            x.board(2, 2);
            Check.is("the input", 2, x.account(8));
            Check.is("the line", "cak/def/ghi", Look.line(x));
            Check.is("the error position", 2, x.errorPosition());
            Check.is("the reason", 3, x.refusal(false));
            Check.is("the detail", 1, x.refusal(true));
        });
        all.add("2 board: leaves the changes before and the snapshot", () -> {
            VowelTorus x = Make.barred(1);
            x.save();
            x.board(2, 2);
            Check.is("undo", 1, x.undo());
            Check.is("the bars", "-#----", Look.bars(x));
            x.board(2, 2);
            x.restore();
            Check.is("the bars of the snapshot", "-#----", Look.bars(x));
        });
        Edges.leavesAll(all, "2 board: a refused one leaves all", x -> x.board(3, 4));
        Edges.leavesAll(all, "2 board: a refused one leaves all, with both numbers wrong", x -> x.board(1, 1));
    }

    // Promise 3.

    private static void put(AllTests all) {
        new Edges(all, "3 put", NO_INDEX).places((x, place) -> x.put(place, 'l'));
        for (char letter : LETTERS.toCharArray()) {
            all.add("3 put: " + letter + " is a letter", () -> {
                VowelTorus x = Make.puzzle(2, 2, letter == 'a' ? "bbbb" : "aaaa", "....");
                Check.is("put", letter == 'a' ? 'b' : 'a', x.put(3, letter));
                Check.is("letter(3)", letter, x.letter(3));
            });
        }
        char[] wrong = {'`', 'm', 'u', 'z', '.', 'A', 'L', '0', ' ', 0, 'a' - 64, 'a' + 128, 'a' + 256, 'l' + 256,
            65535};
        for (char sign : wrong) {
            all.add("3 put: sign " + (int) sign + " is no letter from a to l", () -> {
                VowelTorus x = Make.used(3, 3);
                Check.failsAlone("put", NO_ARGUMENT, x, () -> x.put(8, sign));
            });
        }
        all.add("3 put: at the first and at the last place, and nowhere else", () -> {
            VowelTorus x = new VowelTorus();
            Check.is("put(0, l)", 'a', x.put(0, 'l'));
            Check.is("put(8, l)", 'i', x.put(8, 'l'));
            Check.is("the board", "lbcdefghl abcdefghi ------ 3x3", Look.board(x));
        });
        all.add("3 put: a letter that is at another place can be put, so that all are alike", () -> {
            VowelTorus x = new VowelTorus();
            for (int place = 1; place < 9; place++) {
                x.put(place, 'a');
            }
            Check.is("the letters", "aaaaaaaaa", Look.letters(x));
        });
        all.add("3 put: in lines that are barred", () -> {
            VowelTorus x = Make.allBarred(2, 2);
            Check.is("put(3, l)", 'd', x.put(3, 'l'));
            Check.is("the board", "abcl abcd #### 2x2", Look.board(x));
        });
        all.add("3 put: reaching the goal by it does not count", () -> {
            VowelTorus x = new VowelTorus();
            x.put(0, 'l');
            x.put(0, 'a');
            Check.is("away", 0, x.away(false));
            Check.is("the counts", "0 0 0 0 0 0", Look.counts(x));
            Check.is("what can be undone", 2, x.account(9));
        });
    }

    private static void putRefused(AllTests all) {
        for (int place : new int[] {0, 5, 8}) {
            all.add("3 put: refused for reason 2, the letter is at place " + place + " already", () -> {
                VowelTorus x = new VowelTorus();
                Check.refuses("put", 2, place, x, () -> x.put(place, LETTERS.charAt(place)));
            });
        }
        all.add("3 put: refused for reason 2, by what is on the board and not by the goal", () -> {
            VowelTorus x = Make.puzzle(3, 3, "lbcdefghi", "abcdefghi");
            Check.refuses("put(0, l)", 2, 0, x, () -> x.put(0, 'l'));
            Check.is("put(0, a)", 'l', x.put(0, 'a'));
        });
        all.add("3 put: no such place comes ahead of no such letter", () -> {
            VowelTorus x = Make.used(2, 2);
            Check.failsAlone("put(4, m)", NO_INDEX, x, () -> x.put(4, 'm'));
            Check.failsAlone("put(-1, .)", NO_INDEX, x, () -> x.put(-1, '.'));
        });
        Edges.leavesAll(all, "3 put: no such place leaves all", x -> x.put(9, 'a'));
        Edges.leavesAll(all, "3 put: no such letter leaves all", x -> x.put(0, 'm'));
        Edges.leavesAll(all, "3 put: a refused one leaves all", x -> x.put(0, x.letter(0)));
    }

    // Promise 4.

    private static void goal(AllTests all) {
        new Edges(all, "4 goal", NO_INDEX).places((x, place) -> x.goal(place, 'l'));
        for (char sign : (LETTERS + ".").toCharArray()) {
            all.add("4 goal: " + sign + " is a sign", () -> {
                VowelTorus x = Make.puzzle(2, 2, "aaaa", sign == 'a' ? "bbbb" : "aaaa");
                Check.is("goal", sign == 'a' ? 'b' : 'a', x.goal(3, sign));
                Check.is("sign(3)", sign, x.sign(3));
            });
        }
        char[] wrong = {'`', 'm', 'u', 'z', '-', '/', 'A', 'L', '0', ' ', 0, 12, 'a' + 256, '.' + 256, 65535};
        for (char sign : wrong) {
            all.add("4 goal: sign " + (int) sign + " is none of these", () -> {
                VowelTorus x = Make.used(3, 3);
                Check.failsAlone("goal", NO_ARGUMENT, x, () -> x.goal(8, sign));
            });
        }
        all.add("4 goal: at the first and at the last place, and nowhere else", () -> {
            VowelTorus x = new VowelTorus();
            Check.is("goal(0, .)", 'a', x.goal(0, '.'));
            Check.is("goal(8, l)", 'i', x.goal(8, 'l'));
            Check.is("goal(0, a)", '.', x.goal(0, 'a'));
            Check.is("the board", "abcdefghi abcdefghl ------ 3x3", Look.board(x));
        });
        all.add("4 goal: can be . everywhere, or one letter everywhere", () -> {
            VowelTorus x = Make.puzzle(2, 3, "abcdef", "......");
            Check.is("the goal", "......", Look.goal(x));
            Make.lay(x, 2, 3, "abcdef", "llllll");
            Check.is("the goal", "llllll", Look.goal(x));
        });
        all.add("4 goal: a goal that is reached by it does not count", () -> {
            VowelTorus x = new VowelTorus();
            x.goal(0, 'l');
            x.goal(0, 'a');
            Check.is("away", 0, x.away(false));
            Check.is("the counts", "0 0 0 0 0 0", Look.counts(x));
            Check.is("what can be undone", 2, x.account(9));
        });
    }

    private static void goalRefused(AllTests all) {
        for (int place : new int[] {0, 5, 8}) {
            all.add("4 goal: refused for reason 2, the letter is at place " + place + " already", () -> {
                VowelTorus x = new VowelTorus();
                Check.refuses("goal", 2, place, x, () -> x.goal(place, LETTERS.charAt(place)));
            });
            all.add("4 goal: refused for reason 2, the . is at place " + place + " already", () -> {
                VowelTorus x = Make.puzzle(3, 3, "abcdefghi", DOTS);
                Check.refuses("goal", 2, place, x, () -> x.goal(place, '.'));
            });
        }
        all.add("4 goal: refused for reason 2, by the goal and not by what is on the board", () -> {
            VowelTorus x = Make.puzzle(3, 3, "lbcdefghi", "abcdefghi");
            Check.refuses("goal(0, a)", 2, 0, x, () -> x.goal(0, 'a'));
            Check.is("goal(0, l)", 'a', x.goal(0, 'l'));
        });
        all.add("4 goal: no such place comes ahead of no such sign", () -> {
            VowelTorus x = Make.used(2, 2);
            Check.failsAlone("goal(4, m)", NO_INDEX, x, () -> x.goal(4, 'm'));
            Check.failsAlone("goal(-1, /)", NO_INDEX, x, () -> x.goal(-1, '/'));
        });
        Edges.leavesAll(all, "4 goal: no such place leaves all", x -> x.goal(9, '.'));
        Edges.leavesAll(all, "4 goal: no such sign leaves all", x -> x.goal(0, 'm'));
        Edges.leavesAll(all, "4 goal: a refused one leaves all", x -> x.goal(4, '.'));
    }

    // Promises 10 to 13.

    private static void asked(AllTests all) {
        new Edges(all, "10 letter", NO_INDEX).places((x, place) -> x.letter(place));
        new Edges(all, "11 sign", NO_INDEX).places((x, place) -> x.sign(place));
        new Edges(all, "12 isBarred", NO_INDEX).lines((x, line) -> x.isBarred(line));
        String[] letters = {"lkji", "lkjihg", "lkjihg", "lkjihgfed"};
        String[] signs = {"a..l", "a....l", "a....l", "a.......l"};
        for (int i = 0; i < letters.length; i++) {
            int[] size = Edges.SIZES[i];
            String due = letters[i];
            String goal = signs[i];
            String of = " of " + size[0] + " by " + size[1];
            all.add("10 letter: place by place, row by row" + of, () ->
                Check.is("the letters", due, Look.letters(Make.puzzle(size[0], size[1], due, goal))));
            all.add("11 sign: place by place, row by row" + of, () ->
                Check.is("the goal", goal, Look.goal(Make.puzzle(size[0], size[1], due, goal))));
        }
        all.add("10 letter: of places that are not on a smaller board any more", () -> {
            VowelTorus x = new VowelTorus();
            x.board(3, 2);
            Check.failsAlone("letter(6)", NO_INDEX, x, () -> x.letter(6));
            x.undo();
            Check.is("letter(6)", 'g', x.letter(6));
        });
        all.add("11 sign: a letter of the goal that is not on the board", () -> {
            VowelTorus x = new VowelTorus();
            x.goal(8, 'l');
            Check.is("sign(8)", 'l', x.sign(8));
            Check.is("letter(8)", 'i', x.letter(8));
        });
        all.add("11 sign: turns and swaps leave it", () -> {
            VowelTorus x = Make.puzzle(3, 3, "abcdefghi", "abc.efghi");
            x.turn(6);
            x.swap(3, 8);
            Check.is("the goal", "abc.efghi", Look.goal(x));
        });
        all.add("12 isBarred: rows come first, and columns behind them", () -> {
            VowelTorus x = Make.sized(2, 3);
            x.bar(2);
            Check.is("the bars", "--#--", Look.bars(x));
            Check.is("the first row can be turned", 3, x.turn(0));
            Check.refuses("the first column", 1, 2, x, () -> x.turn(4));
        });
    }

    private static void boardIs(AllTests all, String name, Supplier<VowelTorus> maker, int what, int due) {
        all.add("13 boardOf: " + name, () -> {
            VowelTorus x = maker.get();
            String before = Look.all(x);
            Check.is("boardOf(" + what + ")", due, x.boardOf(what));
            Check.is("all behind it", before, Look.all(x));
        });
    }

    private static void boardOf(AllTests all) {
        new Edges(all, "13 boardOf", NO_ARGUMENT).numbers("number", 0, 6, (x, what) -> x.boardOf(what));
        int[][] due = {{2, 2, 8, 8}, {2, 3, 10, 10}, {3, 2, 10, 10}, {3, 3, 12, 12}};
        for (int[] size : due) {
            String of = " of " + size[0] + " by " + size[1];
            boardIs(all, "the rows" + of, () -> Make.sized(size[0], size[1]), 0, size[0]);
            boardIs(all, "the columns" + of, () -> Make.sized(size[0], size[1]), 1, size[1]);
            boardIs(all, "the turns" + of, () -> Make.sized(size[0], size[1]), 2, size[2]);
            boardIs(all, "the turns that there are, all barred," + of, () -> Make.allBarred(size[0], size[1]), 2,
                size[2]);
            boardIs(all, "the turns that can be made" + of, () -> Make.sized(size[0], size[1]), 3, size[3]);
            boardIs(all, "the turns that can be made, all barred," + of, () -> Make.allBarred(size[0], size[1]), 3, 0);
        }
        boardIs(all, "the turns that can be made, one barred", () -> Make.barred(0), 3, 10);
        boardIs(all, "the turns that can be made, the last barred", () -> Make.barred(5), 3, 10);
        boardIs(all, "the turns that can be made, one not barred", () -> Make.barred(0, 1, 2, 3, 4), 3, 2);
        boardIs(all, "the turns that can be made, one not barred any more", () -> Make.barred(2, 2), 3, 12);
    }

    private static void lettersAre(AllTests all, String name, String letters, int unlike, int vowels) {
        int side = letters.length() == 9 ? 3 : 2;
        boardIs(all, "the letters that are unlike, " + name, () -> Make.puzzle(side, side, letters, DOTS), 4, unlike);
        boardIs(all, "the vowels, " + name, () -> Make.puzzle(side, side, letters, DOTS), 5, vowels);
    }

    private static void boardOfLetters(AllTests all) {
        lettersAre(all, "all letters unlike, to l", "lbcdefghk", 9, 1);
        lettersAre(all, "all unlike but two", "abcdefgha", 8, 3);
        lettersAre(all, "none unlike", "lllllllll", 1, 0);
        lettersAre(all, "two pairs", "abab", 2, 2);
        lettersAre(all, "no vowels", "bcdfghjkl", 9, 0);
        lettersAre(all, "one vowel at the first place", "ecdfghjkl", 9, 1);
        lettersAre(all, "one vowel at the last place", "bcdfghjki", 9, 1);
        lettersAre(all, "vowels alone", "aeiaeiaei", 3, 9);
        lettersAre(all, "one vowel at each place", "aaaa", 1, 4);
        boardIs(all, "the letters that are unlike, not those of the goal", () -> Make.puzzle(2, 2, "bbbb", "acde"), 4,
            1);
        boardIs(all, "the vowels, not those of the goal", () -> Make.puzzle(2, 2, "bbbb", "aeia"), 5, 0);
        boardIs(all, "no places with .", VowelTorus::new, 6, 0);
        boardIs(all, "one place with .", () -> Make.puzzle(3, 3, "abcdefghi", "abcdefgh."), 6, 1);
        boardIs(all, "all places with .", () -> Make.puzzle(3, 3, "abcdefghi", DOTS), 6, 9);
        boardIs(all, "all places of 2 by 2 with .", () -> Make.puzzle(2, 2, "abcd", DOTS), 6, 4);
        all.add("13 boardOf: places of a larger board do not count", () -> {
            VowelTorus x = Make.puzzle(3, 3, "aeiaeiaei", DOTS);
            x.board(2, 2);
            Check.is("the numbers", "4 1 0", x.boardOf(4) + " " + x.boardOf(5) + " " + x.boardOf(6));
        });
    }
}
