import java.util.NoSuchElementException;
import java.util.function.Supplier;

/** Promises 14 to 22, case by case: what is near enough and what is not, out of reach, alike or barred. */
final class WayEdges {
    private static final Class<IndexOutOfBoundsException> NO_INDEX = IndexOutOfBoundsException.class;
    private static final Class<IllegalArgumentException> NO_ARGUMENT = IllegalArgumentException.class;
    private static final Class<NoSuchElementException> NONE = NoSuchElementException.class;
    private static final String DOTS = ".........";
    private static final String LETTERS = "abcdefghi";

    /** What is due where the document wants an exception: for away if the goal is too far, for firstTurn also at it. */
    private static final int TOO_FAR = -1;

    private WayEdges() {
    }

    static void addTo(AllTests all) {
        awayCounts(all);
        awayDots(all);
        awayBarred(all);
        awayRoundBars(all);
        awayOfTwo(all);
        askedAgain(all);
        firstTurn(all);
        outByLetters(all);
        outByParity(all);
        outByOneDot(all);
        outIsNeverReached(all);
        odd(all);
        oddNone(all);
        home(all);
        would(all);
        best(all);
        where(all);
        whereRefused(all);
        far(all);
    }

    // Promises 14 and 15.

    /** Asks both ways, and for the first turn, of a puzzle that all of these leave as it is. */
    private static void way(AllTests all, String name, int due, int first, Supplier<VowelTorus> make) {
        for (boolean isAgain : new boolean[] {false, true}) {
            all.add("14 away: " + name + (isAgain ? ", by trying all" : ", by halves"), () -> {
                VowelTorus x = make.get();
                if (due == TOO_FAR) {
                    Check.failsAlone("away", NONE, x, () -> x.away(isAgain));
                } else {
                    String before = Look.all(x);
                    Check.is("away", due, x.away(isAgain));
                    Check.is("all behind it", before, Look.all(x));
                }
            });
        }
        all.add("15 firstTurn: " + name, () -> {
            VowelTorus x = make.get();
            if (first == TOO_FAR) {
                Check.failsAlone("firstTurn", NONE, x, x::firstTurn);
            } else {
                String before = Look.all(x);
                Check.is("firstTurn", first, x.firstTurn());
                Check.is("all behind it", before, Look.all(x));
            }
        });
    }

    private static VowelTorus turned(int... turns) {
        VowelTorus x = new VowelTorus();
        Make.turn(x, turns);
        return x;
    }

    private static VowelTorus barred(String letters, String goal, int... lines) {
        VowelTorus x = Make.puzzle(3, 3, letters, goal);
        Make.bar(x, lines);
        return x;
    }

    private static void awayCounts(AllTests all) {
        way(all, "the goal is reached", 0, TOO_FAR, VowelTorus::new);
        way(all, "1 turn, to be turned back by the first turn", 1, 0, () -> turned(1));
        way(all, "1 turn, to be turned back by the last turn", 1, 11, () -> turned(10));
        way(all, "1 turn made twice is 1 turn the other way", 1, 0, () -> turned(0, 0));
        way(all, "1 turn made three times is none", 0, TOO_FAR, () -> turned(6, 6, 6));
        way(all, "1 turn there and back is none", 0, TOO_FAR, () -> turned(8, 9));
        way(all, "2 turns of lines that cross", 2, 6, () -> turned(0, 7));
        way(all, "2 turns of lines that do not cross, the lowest first", 2, 1, () -> turned(0, 2));
        way(all, "2 turns of lines that do not cross, made the other way round", 2, 1, () -> turned(2, 0));
        way(all, "3 turns, the most", 3, 7, () -> turned(0, 6, 9));
        way(all, "3 turns of all rows", 3, 1, () -> turned(4, 2, 0));
        way(all, "3 turns of all columns", 3, 6, () -> turned(7, 9, 11));
        way(all, "3 turns, the last turn there is comes first", 3, 11, () -> turned(8, 0, 10));
        way(all, "3 turns, the last turn there is comes last", 3, 9, () -> turned(10, 0, 8));
        way(all, "3 turns, the first turn there is comes last", 3, 2, () -> turned(1, 6, 3));
        way(all, "3 turns, the first turn there is comes first", 3, 0, () -> turned(3, 6, 1));
        way(all, "4 turns, too far", TOO_FAR, TOO_FAR, () -> turned(0, 6, 9, 2));
        way(all, "4 turns, the last ones of lines that do not cross", TOO_FAR, TOO_FAR, () -> turned(11, 2, 8, 1));
        way(all, "4 turns there and back are none", 0, TOO_FAR, () -> turned(0, 6, 7, 1));
        way(all, "5 turns of which two go away are 3", 3, 7, () -> turned(0, 6, 9, 2, 3));
    }

    private static void awayDots(AllTests all) {
        way(all, "a goal of . alone is reached", 0, TOO_FAR, () -> Make.puzzle(3, 3, LETTERS, DOTS));
        way(all, "one letter at home", 0, TOO_FAR, () -> Make.puzzle(3, 3, LETTERS, "........i"));
        way(all, "one letter, 1 turn", 1, 1, () -> Make.puzzle(3, 3, LETTERS, "b........"));
        way(all, "one letter, 1 turn round the torus", 1, 0, () -> Make.puzzle(3, 3, LETTERS, "c........"));
        way(all, "one letter aslant, 2 turns", 2, 3, () -> Make.puzzle(3, 3, LETTERS, "e........"));
        way(all, "one letter aslant round the torus, 2 turns", 2, 4, () -> Make.puzzle(3, 3, LETTERS, "i........"));
        way(all, "a letter at one of its two places, 1 turn", 1, 0, () -> Make.puzzle(3, 3, "cbadefgha", "a........"));
        way(all, "letters alike, all of them", 0, TOO_FAR, () -> Make.puzzle(3, 3, "lllllllll", "lllllllll"));
        way(all, "a letter that is not there", TOO_FAR, TOO_FAR, () -> Make.puzzle(3, 3, LETTERS, "........l"));
        way(all, "a letter that is there once, asked for twice", TOO_FAR, TOO_FAR,
            () -> Make.puzzle(3, 3, LETTERS, "a...a...."));
        way(all, "one swap, out of reach", TOO_FAR, TOO_FAR, () -> Make.puzzle(3, 3, LETTERS, "bacdefghi"));
    }

    private static void awayBarred(AllTests all) {
        way(all, "all barred, but reached", 0, TOO_FAR, () -> Make.allBarred(3, 3));
        way(all, "all barred", TOO_FAR, TOO_FAR, () -> barred("bcadefghi", LETTERS, 0, 1, 2, 3, 4, 5));
        way(all, "all barred but the line", 1, 0, () -> barred("bcadefghi", LETTERS, 1, 2, 3, 4, 5));
        way(all, "all barred but the last line", 1, 11, () -> barred("abidecghf", LETTERS, 0, 1, 2, 3, 4));
        way(all, "the line of the one turn barred", TOO_FAR, TOO_FAR, () -> barred("bcadefghi", LETTERS, 0));
        way(all, "the line barred, and not any more", 1, 0, () -> barred("bcadefghi", LETTERS, 0, 0));
        int[] lines = {3, 4, 0};
        String[] names = {"first", "second", "third"};
        for (int i = 0; i < lines.length; i++) {
            int line = lines[i];
            way(all, "3 turns, the line of the " + names[i] + " barred", TOO_FAR, TOO_FAR, () -> {
                VowelTorus x = turned(0, 6, 9);
                x.bar(line);
                return x;
            });
        }
        way(all, "3 turns, all barred but their lines", 3, 7, () -> {
            VowelTorus x = turned(0, 6, 9);
            Make.bar(x, 1, 2, 5);
            return x;
        });
    }

    private static void awayRoundBars(AllTests all) {
        way(all, "one letter, its row barred, 3 turns round it", 3, 8, () -> barred(LETTERS, "b........", 0));
        way(all, "one letter, two rows barred, 3 turns round them", 3, 9, () -> barred(LETTERS, "b........", 0, 1));
        way(all, "one letter, all rows barred", TOO_FAR, TOO_FAR, () -> barred(LETTERS, "b........", 0, 1, 2));
        way(all, "one letter aslant, the lowest way barred", 2, 9, () -> barred(LETTERS, "e........", 1));
        way(all, "one letter aslant, the line of the last turn of the lowest way barred", 2, 9,
            () -> barred(LETTERS, "e........", 3));
        way(all, "one letter aslant, one line of each way barred, 3 turns round them", 3, 8,
            () -> barred(LETTERS, "e........", 1, 0));
        way(all, "one letter aslant, all columns barred", TOO_FAR, TOO_FAR,
            () -> barred(LETTERS, "e........", 3, 4, 5));
    }

    private static void awayOfTwo(AllTests all) {
        way(all, "2 by 2, a row, by either turn the lowest", 1, 0, () -> Make.puzzle(2, 2, "bacd", "abcd"));
        way(all, "2 by 2, the last column", 1, 6, () -> Make.puzzle(2, 2, "adcb", "abcd"));
        way(all, "2 by 2, both rows", 2, 0, () -> Make.puzzle(2, 2, "badc", "abcd"));
        way(all, "2 by 2, aslant", 3, 0, () -> Make.puzzle(2, 2, "dbca", "abcd"));
        way(all, "2 by 2, turned round", TOO_FAR, TOO_FAR, () -> Make.puzzle(2, 2, "dcba", "abcd"));
        way(all, "2 by 3, all columns", 3, 4, () -> Make.puzzle(2, 3, "defabc", "abcdef"));
        way(all, "3 by 2, all rows", 3, 0, () -> Make.puzzle(3, 2, "badcfe", "abcdef"));
        way(all, "3 by 2, the last column to the north", 1, 9, () -> Make.puzzle(3, 2, "afcbed", "abcdef"));
        way(all, "2 by 3, the last row to the east", 1, 2, () -> Make.puzzle(2, 3, "abcefd", "abcdef"));
    }

    private static void askedAgain(AllTests all) {
        for (boolean isAgain : new boolean[] {false, true}) {
            String way = isAgain ? ", by trying all" : ", by halves";
            all.add("14 away: asked behind each of 5 turns there and back" + way, () -> {
                VowelTorus x = new VowelTorus();
                int[] turns = {0, 6, 9, 2, 3, 8, 7, 1};
                int[] due = {1, 2, 3, TOO_FAR, 3, 2, 1, 0};
                for (int i = 0; i < turns.length; i++) {
                    x.turn(turns[i]);
                    String told = due[i] == TOO_FAR ? "throws " + NONE.getName() : String.valueOf(due[i]);
                    Check.is("away behind turn " + turns[i], told, Check.answer(() -> x.away(isAgain)));
                }
            });
            all.add("14 away: asked behind another goal" + way, () -> {
                VowelTorus x = turned(0, 6, 9);
                Check.is("away", 3, x.away(isAgain));
                x.goal(0, 'l');
                Check.fails("away", NONE, () -> x.away(isAgain));
                Make.lay(x, 3, 3, LETTERS, "bcadefghi");
                Check.is("away", 1, x.away(isAgain));
                Make.lay(x, 2, 2, "dbca", "abcd");
                Check.is("away", 3, x.away(isAgain));
            });
        }
        all.add("15 firstTurn: asked behind another goal", () -> {
            VowelTorus x = turned(0, 6, 9);
            Check.is("firstTurn", 7, x.firstTurn());
            Make.turn(x, 2);
            Check.fails("firstTurn", NONE, x::firstTurn);
            Make.lay(x, 3, 3, LETTERS, "bcadefghi");
            Check.is("firstTurn", 1, x.firstTurn());
            x.turn(1);
            Check.fails("firstTurn", NONE, x::firstTurn);
        });
    }

    private static void firstTurn(AllTests all) {
        for (int turn = 0; turn < 12; turn++) {
            int made = turn;
            way(all, "1 turn away by turn " + made, 1, made ^ 1, () -> turned(made));
        }
        all.add("15 firstTurn: the lowest of turns that each bring it nearer", () -> {
            VowelTorus x = Make.puzzle(3, 3, LETTERS, "a.c......");
            x.turn(1);
            Check.is("away", 1, x.away(false));
            Check.is("firstTurn", 0, x.firstTurn());
        });
        all.add("15 firstTurn: one turn less away behind it, each time", () -> {
            VowelTorus x = turned(0, 6, 9);
            for (int left = 3; left > 0; left--) {
                Check.is("away", left, x.away(false));
                x.turn(x.firstTurn());
            }
            Check.failsAlone("firstTurn", NONE, x, x::firstTurn);
        });
    }

    // Promise 16.

    private static void out(AllTests all, String name, boolean due, String letters, String goal) {
        int rows = letters.length() == 9 ? 3 : 2;
        outOf(all, name, due, rows, letters.length() / rows, letters, goal);
    }

    private static void outOf(AllTests all, String name, boolean due, int rows, int columns, String letters,
            String goal) {
        all.add("16 isOut: " + name, () -> {
            VowelTorus x = Make.puzzle(rows, columns, letters, goal);
            String before = Look.all(x);
            Check.is("isOut of " + goal + " for " + letters, due, x.isOut());
            Check.is("all behind it", before, Look.all(x));
            Make.bar(x, 0, 1, 2, 3);
            Check.is("isOut behind bars", due, x.isOut());
        });
    }

    private static void outByLetters(AllTests all) {
        out(all, "a letter as often in the goal as on the board", false, "abcaabcaa", "a...aa.aa");
        out(all, "a letter once more often than on the board", true, "abcaabcaa", "a.a.aa.aa");
        out(all, "a letter less often than on the board", false, "abcaabcaa", "a.......a");
        out(all, "a letter that is not on the board", true, LETTERS, "j........");
        out(all, "the letter a more often", true, "bbcdefghi", "........a");
        out(all, "the letter l more often", true, "kbcdefghi", "l........");
        out(all, "the letter l as often", false, "lbcdefghi", "........l");
        out(all, "no letters in the goal", false, LETTERS, DOTS);
        out(all, "one letter everywhere", false, "lllllllll", "lllllllll");
        out(all, "one letter nowhere but in the goal, everywhere", true, "kkkkkkkkk", "lllllllll");
        out(all, "a letter twice, on 2 by 2", true, "abcd", "a..a");
        out(all, "a letter twice on both, on 2 by 2", false, "abca", "a.a.");
        out(all, "another letter, on 2 by 3", true, "abcdef", "abcdeg");
    }

    private static void outByParity(AllTests all) {
        out(all, "no swap", false, LETTERS, LETTERS);
        out(all, "one swap", true, LETTERS, "bacdefghi");
        out(all, "one swap of the last places", true, LETTERS, "abcdefgih");
        out(all, "one swap of the first and the last place", true, LETTERS, "ibcdefgha");
        out(all, "two swaps", false, LETTERS, "badcefghi");
        out(all, "three swaps", true, LETTERS, "badcfeghi");
        out(all, "four swaps", false, LETTERS, "badcfehgi");
        out(all, "a round of three", false, LETTERS, "bcadefghi");
        out(all, "a round of four", true, LETTERS, "bcdaefghi");
        out(all, "a round of eight", true, LETTERS, "bcdefghai");
        out(all, "a round of nine", false, LETTERS, "bcdefghia");
        out(all, "one swap, with letters to l", true, "lkjihgfed", "lkjihgfde");
        out(all, "one swap, but two letters of the board are alike", false, "aacdefghi", "aacdefgih");
        out(all, "one swap, but the last two letters of the board are alike", false, "abcdefghh", "bacdefghh");
        out(all, "one swap, but 2 rows", false, "abcdef", "bacdef");
        outOf(all, "one swap, but 2 columns", false, 3, 2, "abcdef", "bacdef");
        out(all, "one swap, but 2 rows and 2 columns", false, "abcd", "bacd");
    }

    private static void outByOneDot(AllTests all) {
        out(all, "one . at the first place, no swap", false, LETTERS, ".bcdefghi");
        out(all, "one . at the last place, no swap", false, LETTERS, "abcdefgh.");
        out(all, "one . at the first place, one swap of others", true, LETTERS, ".cbdefghi");
        out(all, "one . at the last place, one swap of others", true, LETTERS, "bacdefgh.");
        out(all, "one . that takes the letter of a swap", true, LETTERS, ".acdefghi");
        out(all, "one . that takes the letter of a swap far off", true, LETTERS, "ibcdefgh.");
        out(all, "one . that takes a letter of two swaps", false, LETTERS, "ba.cefghi");
        out(all, "one . that takes the last letter, l", true, "lbcdefghi", "b.cdefghi");
        out(all, "one . in a round of nine", false, LETTERS, "bcdefghi.");
        out(all, "one . and one swap, but two letters of the board are alike", false, "aacdefghi", "a.cdefgih");
        out(all, "two ., one swap of others", false, LETTERS, "bacdefg..");
        out(all, "two ., one swap with one of them", false, LETTERS, ".acdefgh.");
        out(all, "nine .", false, LETTERS, DOTS);
        out(all, "one . and one swap, but 2 rows", false, "abcdef", "bacde.");
        outOf(all, "one . and one swap, but 2 columns", false, 3, 2, "abcdef", "bacde.");
    }

    private static void outIsNeverReached(AllTests all) {
        all.add("16 isOut: a goal that is out of reach is not reached by turns", () -> {
            VowelTorus x = new VowelTorus();
            x.swap(3, 7);
            for (int turn = 0; turn < 12; turn++) {
                x.turn(turn);
                Check.isTrue("isOut behind turn " + turn, x.isOut());
                Check.fails("away", NONE, () -> x.away(false));
                Check.fails("away again", NONE, () -> x.away(true));
                Check.fails("firstTurn", NONE, x::firstTurn);
            }
            x.swap(0, 8);
            Check.isFalse("isOut behind one more swap", x.isOut());
        });
        all.add("16 isOut: turns and scrambles leave a goal in reach", () -> {
            VowelTorus x = new VowelTorus();
            for (int seed = 0; seed < 60; seed++) {
                x.scramble(seed, 9);
                Check.isFalse("isOut", x.isOut());
            }
        });
    }

    // Promise 17.

    private static void oddIs(AllTests all, String name, boolean due, int rows, int columns, String letters,
            String goal) {
        for (boolean isAgain : new boolean[] {false, true}) {
            all.add("17 isOdd: " + name + (isAgain ? ", by pairs" : ", by cycles"), () -> {
                VowelTorus x = Make.puzzle(rows, columns, letters, goal);
                String before = Look.all(x);
                Check.is("isOdd", due, x.isOdd(isAgain));
                Check.is("all behind it", before, Look.all(x));
            });
        }
    }

    private static void odd(AllTests all) {
        oddIs(all, "no swap", false, 3, 3, LETTERS, LETTERS);
        oddIs(all, "one swap", true, 3, 3, LETTERS, "bacdefghi");
        oddIs(all, "one swap of the last places", true, 3, 3, LETTERS, "abcdefgih");
        oddIs(all, "one swap of the first and the last place", true, 3, 3, LETTERS, "ibcdefgha");
        oddIs(all, "two swaps", false, 3, 3, LETTERS, "badcefghi");
        oddIs(all, "four swaps", false, 3, 3, LETTERS, "badcfehgi");
        oddIs(all, "a round of three", false, 3, 3, LETTERS, "cabdefghi");
        oddIs(all, "a round of eight", true, 3, 3, LETTERS, "bcdefghai");
        oddIs(all, "a round of nine", false, 3, 3, LETTERS, "bcdefghia");
        oddIs(all, "all turned round", false, 3, 3, LETTERS, "ihgfedcba");
        oddIs(all, "other letters, to l, one swap", true, 3, 3, "lakbjcidh", "alkbjcidh");
        oddIs(all, "2 by 2, no swap", false, 2, 2, "abcd", "abcd");
        oddIs(all, "2 by 2, one swap", true, 2, 2, "abcd", "dbca");
        oddIs(all, "2 by 2, a round of four", true, 2, 2, "abcd", "bcda");
        oddIs(all, "2 by 3, a round of six", true, 2, 3, "abcdef", "bcdefa");
        oddIs(all, "3 by 2, a round of five", false, 3, 2, "abcdef", "bcdeaf");
        all.add("17 isOdd: bars do not matter for it", () -> {
            VowelTorus x = Make.allBarred(3, 3);
            x.swap(0, 8);
            Check.is("isOdd", "true true", x.isOdd(false) + " " + x.isOdd(true));
        });
        all.add("17 isOdd: each swap of two places changes it", () -> {
            VowelTorus x = new VowelTorus();
            boolean isOdd = false;
            for (int place = 0; place < 72; place++) {
                if (place / 8 != place % 9) {
                    x.swap(place / 8, place % 9);
                    isOdd = !isOdd;
                    Check.is("isOdd by cycles", isOdd, x.isOdd(false));
                    Check.is("isOdd by pairs", isOdd, x.isOdd(true));
                }
            }
        });
    }

    private static void oddNone(AllTests all) {
        String[][] none = {{"two letters of the board are alike, the first", "aacdefghi", "aacdefghi"},
            {"two letters of the board are alike, the last", "abcdefghh", "abcdefghh"},
            {"two letters of the board are alike, the first and the last", "abcdefgha", LETTERS},
            {"all letters are alike", "aaaaaaaaa", "aaaaaaaaa"},
            {"the goal has . at the first place", LETTERS, ".bcdefghi"},
            {"the goal has . at the last place", LETTERS, "abcdefgh."},
            {"the goal has . everywhere", LETTERS, DOTS},
            {"the goal has another letter at the first place", LETTERS, "lbcdefghi"},
            {"the goal has another letter at the last place", LETTERS, "abcdefghl"},
            {"the goal has a letter twice", LETTERS, "abcdefgha"},
            {"2 by 2, the goal has a letter twice", "abcd", "abcc"},
            {"2 by 2, two letters are alike", "abca", "abcd"}};
        for (String[] one : none) {
            int rows = one[1].length() == 9 ? 3 : 2;
            for (boolean isAgain : new boolean[] {false, true}) {
                all.add("17 isOdd: none, " + one[0] + (isAgain ? ", by pairs" : ", by cycles"), () -> {
                    VowelTorus x = Make.puzzle(rows, rows, one[1], one[2]);
                    Check.failsAlone("isOdd", NONE, x, () -> x.isOdd(isAgain));
                });
            }
        }
    }

    // Promises 18 to 20.

    private static void homeIs(AllTests all, String name, int due, int rows, int columns, String letters, String goal) {
        all.add("18 home: " + name, () -> {
            VowelTorus x = Make.puzzle(rows, columns, letters, goal);
            String before = Look.all(x);
            Check.is("home", due, x.home());
            Check.is("all behind it", before, Look.all(x));
        });
    }

    private static void home(AllTests all) {
        homeIs(all, "all places", 9, 3, 3, LETTERS, LETTERS);
        homeIs(all, "no place", 0, 3, 3, LETTERS, "bcdefghia");
        homeIs(all, "the first place alone", 1, 3, 3, LETTERS, "allllllll");
        homeIs(all, "the last place alone", 1, 3, 3, LETTERS, "lllllllli");
        homeIs(all, "all but the last place", 8, 3, 3, LETTERS, "abcdefghl");
        homeIs(all, "places with . alone", 9, 3, 3, LETTERS, DOTS);
        homeIs(all, "one place with ., and no letter", 1, 3, 3, LETTERS, "llll.llll");
        homeIs(all, "all places of 2 by 2", 4, 2, 2, "llll", "llll");
        homeIs(all, "no place of 2 by 3", 0, 2, 3, "aaabbb", "bbbaaa");
        homeIs(all, "all places of 3 by 2", 6, 3, 2, "lkjihg", "l.j.h.");
    }

    private static void would(AllTests all) {
        new Edges(all, "19 would", NO_INDEX).turns((x, turn) -> x.would(turn));
        for (int[] size : Edges.SIZES) {
            all.add("19 would: as many as are at home behind each turn of " + size[0] + " by " + size[1], () -> {
                VowelTorus x = Make.used(size[0], size[1]);
                for (int turn = 0; turn < x.boardOf(2); turn++) {
                    String before = Look.all(x);
                    int told = x.would(turn);
                    Check.is("all behind would(" + turn + ")", before, Look.all(x));
                    Check.is("would(" + turn + ")", x.turn(turn), told);
                }
            });
        }
        all.add("19 would: all places", () -> Check.is("would(1)", 9, turned(0).would(1)));
        all.add("19 would: no place", () ->
            Check.is("would(0)", 0, Make.puzzle(2, 2, "abcd", "abll").would(0)));
        all.add("19 would: . is at home behind each turn", () ->
            Check.is("would(11)", 9, Make.puzzle(3, 3, LETTERS, DOTS).would(11)));
        all.add("19 would: of lines that are barred", () -> {
            VowelTorus x = Make.allBarred(3, 3);
            Check.is("would(0)", 6, x.would(0));
            Check.is("would(11)", 6, x.would(11));
            Check.fails("refusal", NONE, () -> x.refusal(false));
        });
        all.add("19 would: no such turn, with all barred", () -> {
            VowelTorus x = Make.allBarred(2, 2);
            Check.failsAlone("would(8)", NO_INDEX, x, () -> x.would(8));
        });
    }

    private static void bestIs(AllTests all, String name, int due, Supplier<VowelTorus> make) {
        all.add("20 best: " + name, () -> {
            VowelTorus x = make.get();
            String before = Look.all(x);
            Check.is("best", due, x.best());
            Check.is("all behind it", before, Look.all(x));
        });
    }

    private static void best(AllTests all) {
        bestIs(all, "the first turn", 0, () -> turned(1));
        bestIs(all, "the last turn", 11, () -> turned(10));
        bestIs(all, "of turns that are alike the lowest", 0, VowelTorus::new);
        bestIs(all, "of two turns of a line of 2 places the lower", 6, () -> Make.puzzle(2, 2, "adcb", "abcd"));
        bestIs(all, "of two lines that are alike the lower", 3, () -> turned(2, 4));
        bestIs(all, "no turn brings anything home", 0, () -> Make.puzzle(2, 2, "aaaa", "bbbb"));
        bestIs(all, "each turn brings all home", 0, () -> Make.puzzle(3, 3, LETTERS, DOTS));
        bestIs(all, "each turn takes letters from home", 0, () -> Make.puzzle(3, 3, LETTERS, LETTERS));
        bestIs(all, "the best line is barred", 0, () -> barred("abidecghf", LETTERS, 5));
        bestIs(all, "the first line is barred", 2, () -> Make.barred(0));
        bestIs(all, "all lines barred but the first", 0, () -> Make.barred(1, 2, 3, 4, 5));
        bestIs(all, "all lines barred but the last", 10, () -> Make.barred(0, 1, 2, 3, 4));
        bestIs(all, "all lines barred but the last, no turn of it brings anything home", 6, () -> {
            VowelTorus x = Make.puzzle(2, 2, "aaaa", "bbbb");
            Make.bar(x, 0, 1, 2);
            return x;
        });
        bestIs(all, "a line is not barred any more", 0, () -> Make.barred(0, 0));
        for (int[] size : Edges.SIZES) {
            all.add("20 best: none, all lines of " + size[0] + " by " + size[1] + " are barred", () -> {
                VowelTorus x = Make.allBarred(size[0], size[1]);
                Check.failsAlone("best", NONE, x, x::best);
            });
        }
    }

    // Promises 21 and 22.

    private static void whereIs(AllTests all, String name, int rows, int columns, int place, int turn, int times,
            int due) {
        all.add("21 where: " + name, () -> {
            VowelTorus x = Make.sized(rows, columns);
            x.bar(turn / 2);
            String before = Look.all(x);
            Check.is("where(" + place + ", " + turn + ", " + times + "), barred", due, x.where(place, turn, times));
            Check.is("all behind it", before, Look.all(x));
            x.bar(turn / 2);
            Check.is("where(" + place + ", " + turn + ", " + times + ")", due, x.where(place, turn, times));
        });
    }

    private static void where(AllTests all) {
        new Edges(all, "21 where", NO_INDEX).places((x, place) -> x.where(place, 0, 1));
        new Edges(all, "21 where", NO_INDEX).turns((x, turn) -> x.where(0, turn, 1));
        new Edges(all, "21 where", NO_ARGUMENT).numbers("number of times", 0, 99, (x, times) -> x.where(8, 11, times));
        whereIs(all, "no times, the place itself", 3, 3, 8, 11, 0, 8);
        whereIs(all, "once to the east", 3, 3, 0, 0, 1, 1);
        whereIs(all, "once to the east from the last place of a row", 3, 3, 2, 0, 1, 0);
        whereIs(all, "once to the west from the first place of a row", 3, 3, 0, 1, 1, 2);
        whereIs(all, "once to the south from the last place of a column", 3, 3, 8, 10, 1, 2);
        whereIs(all, "once to the north from the first place of a column", 3, 3, 2, 11, 1, 8);
        whereIs(all, "twice to the east", 3, 3, 0, 0, 2, 2);
        whereIs(all, "twice to the north", 3, 3, 0, 7, 2, 3);
        whereIs(all, "three times, round a line of 3 places", 3, 3, 0, 0, 3, 0);
        whereIs(all, "99 times, the most, round a line of 3 places", 3, 3, 4, 8, 99, 4);
        whereIs(all, "98 times to the north on a line of 3 places", 3, 3, 4, 9, 98, 7);
        whereIs(all, "a place of another row stays", 3, 3, 3, 0, 50, 3);
        whereIs(all, "a place of another column stays", 3, 3, 0, 10, 50, 0);
        whereIs(all, "the last place stays, with another line", 3, 3, 8, 8, 99, 8);
        whereIs(all, "99 times on a line of 2 places", 2, 2, 3, 3, 99, 2);
        whereIs(all, "98 times on a line of 2 places", 2, 2, 3, 7, 98, 3);
        whereIs(all, "2 by 3, the last column", 2, 3, 5, 9, 99, 2);
        whereIs(all, "2 by 3, the last row to the west", 2, 3, 3, 3, 1, 5);
        whereIs(all, "3 by 2, the last row", 3, 2, 5, 5, 99, 4);
        whereIs(all, "3 by 2, the last column to the south", 3, 2, 5, 8, 1, 1);
        all.add("21 where: the letter is there behind these turns", () -> {
            for (int turn = 0; turn < 12; turn++) {
                VowelTorus x = new VowelTorus();
                VowelTorus y = new VowelTorus();
                Make.turn(y, turn, turn);
                for (int place = 0; place < 9; place++) {
                    Check.is("the letter", x.letter(place), y.letter(x.where(place, turn, 2)));
                }
            }
        });
    }

    private static void whereRefused(AllTests all) {
        all.add("21 where: no such place comes ahead of the times", () -> {
            VowelTorus x = Make.used(2, 2);
            Check.failsAlone("where(4, 0, 100)", NO_INDEX, x, () -> x.where(4, 0, 100));
            Check.failsAlone("where(-1, 0, -1)", NO_INDEX, x, () -> x.where(-1, 0, -1));
        });
        all.add("21 where: no such turn comes ahead of the times", () -> {
            VowelTorus x = Make.used(2, 2);
            Check.failsAlone("where(3, 8, 100)", NO_INDEX, x, () -> x.where(3, 8, 100));
            Check.failsAlone("where(3, -1, -1)", NO_INDEX, x, () -> x.where(3, -1, -1));
        });
        all.add("21 where: no such place or turn, even if it is moved no times", () -> {
            VowelTorus x = Make.used(2, 2);
            Check.failsAlone("where(4, 0, 0)", NO_INDEX, x, () -> x.where(4, 0, 0));
            Check.failsAlone("where(3, 8, 0)", NO_INDEX, x, () -> x.where(3, 8, 0));
        });
    }

    private static void farIs(AllTests all, String name, int rows, int columns, int one, int other, int due) {
        all.add("22 far: " + name, () -> {
            VowelTorus x = Make.sized(rows, columns);
            String before = Look.all(x);
            Check.is("far(" + one + ", " + other + ")", due, x.far(one, other));
            Check.is("far(" + other + ", " + one + ")", due, x.far(other, one));
            Check.is("all behind it", before, Look.all(x));
        });
    }

    private static void far(AllTests all) {
        new Edges(all, "22 far, the one place", NO_INDEX).places((x, place) -> x.far(place, 0));
        new Edges(all, "22 far, the other place", NO_INDEX).places((x, place) -> x.far(0, place));
        new Edges(all, "22 far, both places", NO_INDEX).places((x, place) -> x.far(place, place));
        farIs(all, "from the first place to itself", 3, 3, 0, 0, 0);
        farIs(all, "from the last place to itself", 3, 3, 8, 8, 0);
        farIs(all, "to the next place in the row", 3, 3, 3, 4, 1);
        farIs(all, "to the next place in the column", 3, 3, 4, 7, 1);
        farIs(all, "round the torus in the row", 3, 3, 0, 2, 1);
        farIs(all, "round the torus in the column", 3, 3, 0, 6, 1);
        farIs(all, "round the torus in both", 3, 3, 0, 8, 2);
        farIs(all, "round the torus in the column alone", 3, 3, 0, 7, 2);
        farIs(all, "from the last place of a row to the first of the next", 3, 3, 2, 3, 2);
        farIs(all, "2 by 2, aslant", 2, 2, 0, 3, 2);
        farIs(all, "2 by 2, in the row", 2, 2, 2, 3, 1);
        farIs(all, "2 by 3, round the torus in the row", 2, 3, 3, 5, 1);
        farIs(all, "2 by 3, in the column", 2, 3, 2, 5, 1);
        farIs(all, "3 by 2, round the torus in the column", 3, 2, 1, 5, 1);
        farIs(all, "3 by 2, aslant", 3, 2, 0, 5, 2);
        all.add("22 far: bars do not matter for it", () -> {
            VowelTorus x = Make.allBarred(3, 3);
            Check.is("far(0, 8)", 2, x.far(0, 8));
        });
    }
}
