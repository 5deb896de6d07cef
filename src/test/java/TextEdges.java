import java.util.function.Supplier;

/** Promises 26 to 30, case by case: the shortest and the longest line, and an input that is empty or full. */
final class TextEdges {
    private static final Class<IndexOutOfBoundsException> NO_INDEX = IndexOutOfBoundsException.class;
    private static final Class<IllegalArgumentException> NO_ARGUMENT = IllegalArgumentException.class;
    private static final Class<IllegalStateException> FULL = IllegalStateException.class;

    private TextEdges() {
    }

    static void addTo(AllTests all) {
        text(all);
        goalText(all);
        lineText(all);
        lineTextRefused(all);
        character(all);
        characterStays(all);
        append(all);
        appendSigns(all);
    }

    // Promises 26 to 29.

    private static void text(AllTests all) {
        String[] due = {"ab/cd", "abc/def", "ab/cd/ef", "abc/def/ghi"};
        for (int i = 0; i < due.length; i++) {
            int[] size = Edges.SIZES[i];
            String line = due[i];
            all.add("26 text: of " + size[0] + " by " + size[1], () -> {
                VowelTorus x = Make.sized(size[0], size[1]);
                String before = Look.state(x);
                Check.is("text", line.length(), x.text());
                Check.is("the line", line, Look.line(x));
                Check.is("the state behind it", before, Look.state(x));
            });
            all.add("27 goalText: of " + size[0] + " by " + size[1], () -> {
                VowelTorus x = Make.sized(size[0], size[1]);
                x.swap(0, 3);
                String before = Look.state(x);
                Check.is("goalText", line.length(), x.goalText());
                Check.is("the line", line, Look.line(x));
                Check.is("the state behind it", before, Look.state(x));
            });
        }
        all.add("26 text: letters to l, and those that are alike", () -> {
            VowelTorus x = Make.puzzle(2, 3, "lllaal", "......");
            x.text();
            Check.is("the line", "lll/aal", Look.line(x));
        });
        all.add("26 text: bars and songs are not in it", () -> {
            VowelTorus x = Make.allBarred(2, 2);
            Check.is("text", 5, x.text());
            Check.is("the line", "ab/cd", Look.line(x));
        });
        all.add("26 text: a shorter one in place of a longer one", () -> {
            VowelTorus x = new VowelTorus();
            x.text();
            x.board(2, 2);
            Check.is("text", 5, x.text());
            Check.is("the line", "ab/cd", Look.line(x));
            Check.failsAlone("character(5)", NO_INDEX, x, () -> x.character(5));
        });
        all.add("26 text: twice is not twice as long", () -> {
            VowelTorus x = new VowelTorus();
            x.text();
            Check.is("text", 11, x.text());
            Check.is("the line", "abc/def/ghi", Look.line(x));
        });
    }

    private static void goalText(AllTests all) {
        all.add("27 goalText: of . alone", () -> {
            VowelTorus x = Make.puzzle(3, 3, "abcdefghi", ".........");
            Check.is("goalText", 11, x.goalText());
            Check.is("the line", ".../.../...", Look.line(x));
        });
        all.add("27 goalText: of . at the ends of rows", () -> {
            VowelTorus x = Make.puzzle(3, 2, "abcdef", ".ll..a");
            Check.is("goalText", 8, x.goalText());
            Check.is("the line", ".l/l./.a", Look.line(x));
        });
        all.add("27 goalText: in place of the line before, as text is in its place", () -> {
            VowelTorus x = Make.puzzle(2, 2, "abcd", "l...");
            x.lineText(0);
            x.goalText();
            Check.is("the line", "l./..", Look.line(x));
            x.text();
            Check.is("the line", "ab/cd", Look.line(x));
        });
    }

    private static void lineIs(AllTests all, String name, String due, int rows, int columns, int line, String letters,
            boolean isBarred) {
        all.add("28 lineText: " + name, () -> {
            VowelTorus x = Make.puzzle(rows, columns, letters, ".........");
            for (int other = 0; other < rows + columns; other++) {
                if (isBarred == (other == line)) {
                    x.bar(other);
                }
            }
            String before = Look.state(x);
            Check.is("lineText(" + line + ")", due.length(), x.lineText(line));
            Check.is("the line", due, Look.line(x));
            Check.is("the state behind it", before, Look.state(x));
        });
    }

    private static void lineText(AllTests all) {
        lineIs(all, "neither barred nor singing", "bcd", 3, 3, 0, "bcdaeiaei", false);
        lineIs(all, "barred, not singing", "#bcd", 3, 3, 0, "bcdaeiaei", true);
        lineIs(all, "singing, not barred", "bad!", 3, 3, 0, "badaeiaei", false);
        lineIs(all, "barred and singing, the longest", "#bad!", 3, 3, 0, "badaeiaei", true);
        lineIs(all, "vowels that do not sing", "aei", 3, 3, 2, "bcdbcdaei", false);
        lineIs(all, "barred vowels that do not sing", "#aei", 3, 3, 2, "bcdbcdaei", true);
        lineIs(all, "the first column", "abb!", 3, 3, 3, "acdbcdbcd", false);
        lineIs(all, "the last column, barred", "#bbi!", 3, 3, 5, "aebaebaei", true);
        lineIs(all, "of two letters, the shortest", "bc", 2, 2, 1, "aebc", false);
        lineIs(all, "the last column of two letters, barred and singing", "#bi!", 2, 2, 3, "abai", true);
        lineIs(all, "2 by 3, the last row", "lkj", 2, 3, 1, "abclkj", false);
        lineIs(all, "2 by 3, the last column", "cj", 2, 3, 4, "abclkj", false);
        lineIs(all, "3 by 2, the last row", "jd", 3, 2, 2, "ablkjd", false);
        lineIs(all, "3 by 2, the last column", "bkd", 3, 2, 4, "ablkjd", false);
    }

    private static void lineTextRefused(AllTests all) {
        new Edges(all, "28 lineText", NO_INDEX).lines((x, line) -> x.lineText(line));
        all.add("28 lineText: a shorter one in place of a longer line", () -> {
            VowelTorus x = new VowelTorus();
            x.text();
            Check.is("lineText(5)", 4, x.lineText(5));
            Check.is("the line", "cfi!", Look.line(x));
        });
        all.add("28 lineText: no such line leaves the line of text before", () -> {
            VowelTorus x = new VowelTorus();
            x.lineText(5);
            Check.failsAlone("lineText(6)", NO_INDEX, x, () -> x.lineText(6));
            Check.is("the line", "cfi!", Look.line(x));
        });
        all.add("28 lineText: no such line leaves an empty line of text empty", () -> {
            VowelTorus x = new VowelTorus();
            Check.failsAlone("lineText(-1)", NO_INDEX, x, () -> x.lineText(-1));
            Check.is("the line", "", Look.line(x));
        });
    }

    private static void lengthIs(AllTests all, String name, int length, Supplier<VowelTorus> make) {
        all.add("29 character: the first and the last of " + name, () -> {
            VowelTorus x = make.get();
            x.character(0);
            x.character(length - 1);
        });
        all.add("29 character: below the first and above the last of " + name, () -> {
            VowelTorus x = make.get();
            for (int index : new int[] {-1, length, length + 1, 60, Integer.MAX_VALUE, Integer.MIN_VALUE}) {
                Check.failsAlone("character(" + index + ")", NO_INDEX, x, () -> x.character(index));
            }
        });
    }

    private static VowelTorus written(int rows, int columns, int line) {
        VowelTorus x = Make.sized(rows, columns);
        x.text();
        x.lineText(line);
        return x;
    }

    private static void character(AllTests all) {
        lengthIs(all, "the longest line", 11, () -> Make.used(3, 3));
        lengthIs(all, "the line of 2 by 2", 5, () -> Make.used(2, 2));
        lengthIs(all, "the line of 3 by 2", 8, () -> Make.used(3, 2));
        lengthIs(all, "the shortest line", 2, () -> written(2, 2, 1));
        lengthIs(all, "a line that sings", 4, () -> written(3, 3, 0));
        all.add("29 character: the line is empty at first", () -> {
            VowelTorus x = new VowelTorus();
            for (int index : new int[] {-1, 0, 1, 10, 11}) {
                Check.failsAlone("character(" + index + ")", NO_INDEX, x, () -> x.character(index));
            }
        });
        all.add("29 character: each character in its place", () -> {
            VowelTorus x = Make.puzzle(3, 3, "lkjihgfed", ".........");
            x.text();
            String due = "lkj/ihg/fed";
            for (int i = 0; i < due.length(); i++) {
                Check.is("character(" + i + ")", due.charAt(i), x.character(i));
            }
        });
    }

    private static void characterStays(AllTests all) {
        Edges.Call[] calls = {x -> x.turn(0), x -> x.board(2, 2), VowelTorus::undo, VowelTorus::save,
            VowelTorus::restore, x -> x.append('t'), x -> Check.answer(x::run), x -> Make.run(x, "b22"),
            x -> Check.answer(() -> x.turn(12)), x -> Check.answer(() -> x.swap(1, 1))};
        String[] names = {"a turn", "a board", "undo", "save", "restore", "append", "a run that fails", "run",
            "a turn that is not there", "a refused swap"};
        for (int i = 0; i < calls.length; i++) {
            Edges.Call call = calls[i];
            all.add("29 character: the line stays behind " + names[i], () -> {
                VowelTorus x = new VowelTorus();
                x.save();
                x.turn(0);
                x.text();
                call.on(x);
                Check.is("the line", "cab/def/ghi", Look.line(x));
            });
        }
    }

    // Promise 30.

    private static VowelTorus full(char sign) {
        VowelTorus x = new VowelTorus();
        for (int i = 0; i < 60; i++) {
            x.append(sign);
        }
        return x;
    }

    private static void append(AllTests all) {
        all.add("30 append: the first character", () -> {
            VowelTorus x = new VowelTorus();
            Check.is("append", 1, x.append('t'));
            Check.is("the characters in the input", 1, x.account(8));
        });
        all.add("30 append: the 60th character, the last", () -> {
            VowelTorus x = new VowelTorus();
            for (int i = 1; i < 60; i++) {
                x.append('t');
            }
            Check.is("append", 60, x.append('t'));
            Check.is("the characters in the input", 60, x.account(8));
        });
        all.add("30 append: the 61st character", () -> {
            VowelTorus x = full('t');
            Check.failsAlone("append", FULL, x, () -> x.append('t'));
            Check.failsAlone("append again", FULL, x, () -> x.append((char) 65535));
            Check.is("the characters in the input", 60, x.account(8));
        });
        all.add("30 append: the 61st character is not in the text", () -> {
            VowelTorus x = new VowelTorus();
            Make.type(x, "s01;".repeat(14) + "t000");
            Check.fails("append", FULL, () -> x.append(';'));
            Check.is("run", 15, x.run());
            Check.is("the letters", "cabdefghi", Look.letters(x));
        });
        all.add("30 append: behind a run of 60 characters the input is empty", () -> {
            VowelTorus x = full(';');
            Check.fails("run", NO_ARGUMENT, x::run);
            Check.is("append", 1, x.append('t'));
        });
        all.add("30 append: is no change, and is not undone", () -> {
            VowelTorus x = new VowelTorus();
            x.turn(0);
            x.append('t');
            Check.is("what can be undone", 1, x.account(9));
            x.undo();
            Check.is("the characters in the input", 1, x.account(8));
        });
        all.add("30 append: is neither saved nor restored", () -> {
            VowelTorus x = new VowelTorus();
            x.append('t');
            x.save();
            x.append('1');
            x.restore();
            Check.is("the characters in the input", 2, x.account(8));
            Check.is("run", 1, x.run());
            Check.is("the letters", "bcadefghi", Look.letters(x));
        });
    }

    private static void appendSigns(AllTests all) {
        for (char sign : new char[] {0, 10, ';', 127, 128, 255, 256, 65535}) {
            all.add("30 append: character " + (int) sign + " is taken, and no text goes on with it", () -> {
                VowelTorus x = new VowelTorus();
                Make.type(x, "t1");
                Check.is("append", 3, x.append(sign));
                Check.is("the characters in the input", 3, x.account(8));
                Check.fails("run", NO_ARGUMENT, x::run);
                Check.is("the error position", sign == ';' ? 3 : 2, x.errorPosition());
            });
        }
    }

}
