import java.util.NoSuchElementException;
import java.util.function.Supplier;

/** Promises 23 to 25, case by case: no vowels, one and more, those at both ends, and lines that are alike. */
final class SongEdges {
    private static final Class<IndexOutOfBoundsException> NO_INDEX = IndexOutOfBoundsException.class;
    private static final Class<NoSuchElementException> NONE = NoSuchElementException.class;

    private SongEdges() {
    }

    static void addTo(AllTests all) {
        letters(all);
        singsThree(all);
        singsTwo(all);
        singing(all);
        ranked(all);
        rankedAlike(all);
    }

    // Promise 23.

    private static void letters(AllTests all) {
        for (char letter : "abcdefghijkl".toCharArray()) {
            boolean isVowel = letter == 'a' || letter == 'e' || letter == 'i';
            all.add("23 sings: " + letter + (isVowel ? " is a vowel" : " is no vowel"), () -> {
                String other = letter == 'b' ? "c" : "b";
                VowelTorus x = Make.puzzle(3, 3, letter + other.repeat(8), ".........");
                Check.is("sings(0)", isVowel, x.sings(0));
                Check.is("sings(3)", isVowel, x.sings(3));
                Check.isFalse("sings(1)", x.sings(1));
                Check.is("the vowels", isVowel ? 1 : 0, x.boardOf(5));
            });
        }
    }

    private static void isSong(AllTests all, String name, boolean due, int rows, int columns, int line,
            String letters) {
        all.add("23 sings: " + name, () -> {
            VowelTorus x = Make.puzzle(rows, columns, letters, ".........");
            String before = Look.all(x);
            Check.is("sings(" + line + ") of " + letters, due, x.sings(line));
            Check.is("all behind it", before, Look.all(x));
            x.bar(line);
            Check.is("sings(" + line + ") of " + letters + ", barred", due, x.sings(line));
        });
    }

    private static void singsThree(AllTests all) {
        new Edges(all, "23 sings", NO_INDEX).lines((x, line) -> x.sings(line));
        isSong(all, "no vowel in a row", false, 3, 3, 0, "bcdaeiaei");
        isSong(all, "no vowel in the last column", false, 3, 3, 5, "aebaebaeb");
        isSong(all, "one vowel at the start of a row", true, 3, 3, 0, "abbbbbbbb");
        isSong(all, "one vowel in the middle of a row", true, 3, 3, 1, "bbbbebbbb");
        isSong(all, "one vowel at the end of the last row", true, 3, 3, 2, "bbbbbbbbi");
        isSong(all, "one vowel at the start of a column", true, 3, 3, 3, "abbbbbbbb");
        isSong(all, "one vowel in the middle of a column", true, 3, 3, 4, "bbbbebbbb");
        isSong(all, "one vowel at the end of the last column", true, 3, 3, 5, "bbbbbbbbi");
        isSong(all, "two vowels at the start of a row", false, 3, 3, 0, "aebbbbbbb");
        isSong(all, "two vowels at the end of a row", false, 3, 3, 2, "bbbbbbbea");
        isSong(all, "two vowels at both ends of a row, where the first follows the last", false, 3, 3, 1, "bbbabebbb");
        isSong(all, "two vowels at the start of a column", false, 3, 3, 3, "abbebbbbb");
        isSong(all, "two vowels at the end of a column", false, 3, 3, 4, "bbbbibbab");
        isSong(all, "two vowels at both ends of a column, where the first follows the last", false, 3, 3, 5,
            "bbabbbbbe");
        isSong(all, "two vowels that are alike", false, 3, 3, 0, "aabbbbbbb");
        isSong(all, "three vowels in a row", false, 3, 3, 0, "aeibbbbbb");
        isSong(all, "three vowels in a column", false, 3, 3, 3, "abbabbabb");
        isSong(all, "a vowel at the end of the line before does not matter", true, 3, 3, 1, "bbaebbbbb");
    }

    private static void singsTwo(AllTests all) {
        isSong(all, "2 by 2, no vowel", false, 2, 2, 0, "bcae");
        isSong(all, "2 by 2, one vowel at the start", true, 2, 2, 0, "abbb");
        isSong(all, "2 by 2, one vowel at the end", true, 2, 2, 1, "bbba");
        isSong(all, "2 by 2, two vowels", false, 2, 2, 0, "aibb");
        isSong(all, "2 by 2, two vowels in a column", false, 2, 2, 3, "babe");
        isSong(all, "2 by 3, a row of three with vowels at both ends", false, 2, 3, 0, "abebbb");
        isSong(all, "2 by 3, a column of two with one vowel", true, 2, 3, 4, "abebbb");
        isSong(all, "2 by 3, the last column with no vowel", false, 2, 3, 4, "aebaeb");
        isSong(all, "3 by 2, a column of three with vowels at both ends", false, 3, 2, 4, "babbba");
        isSong(all, "3 by 2, a row of two with one vowel", true, 3, 2, 2, "babbba");
    }

    // Promise 24.

    private static void countIs(AllTests all, String name, int due, Supplier<VowelTorus> make) {
        all.add("24 singing: " + name, () -> {
            VowelTorus x = make.get();
            String before = Look.all(x);
            Check.is("singing", due, x.singing());
            Check.is("all behind it", before, Look.all(x));
        });
    }

    private static void singing(AllTests all) {
        countIs(all, "all lines of 3 by 3", 6, VowelTorus::new);
        countIs(all, "all lines of 2 by 2", 4, () -> Make.puzzle(2, 2, "abba", "...."));
        countIs(all, "no line, no vowels", 0, () -> Make.puzzle(3, 3, "bcdfghjkl", "........."));
        countIs(all, "no line, vowels alone", 0, () -> Make.puzzle(3, 3, "aeiaeiaei", "........."));
        countIs(all, "no line, vowels alone on 2 by 2", 0, () -> Make.puzzle(2, 2, "aaaa", "...."));
        countIs(all, "one vowel, one row and one column", 2, () -> Make.puzzle(3, 3, "bbbbbbbbi", "........."));
        countIs(all, "the columns alone", 3, () -> Make.puzzle(2, 3, "aeibbb", "......"));
        countIs(all, "the rows alone", 3, () -> Make.puzzle(3, 2, "ababab", "......"));
        countIs(all, "lines that are barred count", 6, () -> Make.allBarred(3, 3));
    }

    // Promise 25.

    private static void orderIs(AllTests all, String name, String due, Supplier<VowelTorus> make) {
        all.add("25 ranked: " + name, () -> {
            VowelTorus x = make.get();
            String before = Look.all(x);
            for (int place = 0; place < due.length(); place++) {
                Check.is("ranked(" + place + ")", due.charAt(place) - '0', x.ranked(place));
            }
            Check.is("all behind it", before, Look.all(x));
        });
    }

    private static void ranked(AllTests all) {
        new Edges(all, "25 ranked", NONE).lines((x, place) -> x.ranked(place));
        orderIs(all, "3, 2, 1 and no vowels", "230451", () -> Make.puzzle(3, 3, "abbbbbaei", "........."));
        orderIs(all, "the most vowels in the last line", "501234", () -> Make.puzzle(3, 3, "bbabbebbi", "........."));
        orderIs(all, "the most vowels in the first line", "034512", () -> Make.puzzle(3, 3, "aeibbbbbb", "........."));
        orderIs(all, "lines of 2 and of 3 places", "01342", () -> Make.puzzle(2, 3, "baabaa", "......"));
        orderIs(all, "a vowel counts at each place that it is at", "013425",
            () -> Make.puzzle(3, 3, "aabaabbbb", "........."));
        orderIs(all, "one vowel at the last place", "250134", () -> Make.puzzle(3, 3, "bbbbbbbba", "........."));
    }

    private static void rankedAlike(AllTests all) {
        orderIs(all, "one vowel in each line", "012345", VowelTorus::new);
        orderIs(all, "no vowels", "012345", () -> Make.puzzle(3, 3, "bcdfghjkl", "........."));
        orderIs(all, "vowels alone", "012345", () -> Make.puzzle(3, 3, "aaaaaaaaa", "........."));
        orderIs(all, "no vowels on 2 by 2", "0123", () -> Make.puzzle(2, 2, "bcdf", "...."));
        orderIs(all, "vowels alone on 2 by 3, where the rows have more", "01234",
            () -> Make.puzzle(2, 3, "aeiaei", "......"));
        orderIs(all, "vowels alone on 3 by 2, where the columns have more", "34012",
            () -> Make.puzzle(3, 2, "aeiaei", "......"));
        orderIs(all, "lines that are barred are ranked", "012345", () -> Make.allBarred(3, 3));
        all.add("25 ranked: singing does not matter for it", () -> {
            VowelTorus x = Make.puzzle(2, 2, "aebb", "....");
            Check.isFalse("sings(0)", x.sings(0));
            Check.is("ranked(0)", 0, x.ranked(0));
        });
    }
}
