import java.util.NoSuchElementException;

/** Promises 23 to 25: singing and orders. */
final class SongTests {
    private SongTests() {
    }

    static void addTo(AllTests all) {
        all.add("23 sings", SongTests::sings);
        all.add("23 sings: errors", SongTests::singsErrors);
        all.add("24 singing", SongTests::singing);
        all.add("25 ranked", SongTests::ranked);
        all.add("25 ranked: errors", SongTests::rankedErrors);
    }

    private static void isSong(String what, String due, VowelTorus x) {
        StringBuilder got = new StringBuilder();
        for (int line = 0; line < x.boardOf(0) + x.boardOf(1); line++) {
            got.append(x.sings(line) ? '!' : '-');
        }
        Check.is("the song of " + what, due, got.toString());
    }

    private static void sings() {
        VowelTorus x = new VowelTorus();
        isSong("a new board", "!!!!!!", x);
        Make.lay(x, 3, 3, "bcdfghjkl", ".........");
        isSong("no vowels", "------", x);
        Make.lay(x, 3, 3, "aebcebiba", ".........");
        // In the last row the first letter, a vowel, follows the last one, a vowel too.
        isSong("two vowels in lines", "-!---!", x);
        Make.lay(x, 3, 3, "aaabbblll", "aaabbblll");
        isSong("three vowels in a row", "---!!!", x);
        Make.lay(x, 2, 2, "aibb", "....");
        isSong("two letters, both vowels", "--!!", x);
        Make.lay(x, 2, 3, "abibeb", "......");
        isSong("vowels at both ends", "-!!!!", x);
        Make.lay(x, 3, 2, "abbeib", "......");
        isSong("a column with vowels at both ends", "!!!-!", x);
        x.bar(0);
        Check.isTrue("a barred line sings", x.sings(0));
    }

    private static void singsErrors() {
        VowelTorus x = Make.puzzle(2, 3, "abcdef", "abcdef");
        for (int line : new int[] {-1, 5, 6, Integer.MAX_VALUE, Integer.MIN_VALUE}) {
            Check.failsAlone("sings(" + line + ")", IndexOutOfBoundsException.class, x, () -> x.sings(line));
        }
        Check.isTrue("sings(4)", Make.puzzle(2, 3, "abibeb", "......").sings(4));
    }

    private static void singing() {
        VowelTorus x = new VowelTorus();
        Check.is("singing", 6, x.singing());
        Make.lay(x, 3, 3, "bcdfghjkl", ".........");
        Check.is("singing without vowels", 0, x.singing());
        Make.lay(x, 3, 3, "aebcebiba", ".........");
        Check.is("singing", 2, x.singing());
        Make.lay(x, 2, 2, "abbb", "....");
        Check.is("singing of 2 by 2", 2, x.singing());
    }

    private static void isRanked(String what, int[] due, VowelTorus x) {
        for (int place = 0; place < due.length; place++) {
            Check.is("ranked(" + place + ") of " + what, due[place], x.ranked(place));
        }
        Check.fails("ranked behind all of " + what, NoSuchElementException.class, () -> x.ranked(due.length));
    }

    private static void ranked() {
        VowelTorus x = new VowelTorus();
        isRanked("a new board", new int[] {0, 1, 2, 3, 4, 5}, x);
        Make.lay(x, 3, 3, "bbabbeaei", ".........");
        isRanked("vowels in the last lines", new int[] {2, 5, 0, 1, 3, 4}, x);
        Make.lay(x, 3, 3, "bcdaefghj", ".........");
        isRanked("vowels in the middle", new int[] {1, 3, 4, 0, 2, 5}, x);
        Make.lay(x, 2, 3, "bbabba", "......");
        isRanked("2 by 3", new int[] {4, 0, 1, 2, 3}, x);
        Make.lay(x, 2, 2, "aaaa", "....");
        isRanked("2 by 2", new int[] {0, 1, 2, 3}, x);
        Make.lay(x, 3, 2, "aiaiai", "......");
        isRanked("3 by 2", new int[] {3, 4, 0, 1, 2}, x);
        x.bar(3);
        Check.is("a barred line is ranked", 3, x.ranked(0));
    }

    private static void rankedErrors() {
        VowelTorus x = Make.puzzle(2, 2, "bcdf", "....");
        for (int place : new int[] {-1, 4, Integer.MAX_VALUE, Integer.MIN_VALUE}) {
            Check.failsAlone("ranked(" + place + ")", NoSuchElementException.class, x, () -> x.ranked(place));
        }
    }
}
