/** Puzzles as tests want them. */
final class Make {
    private Make() {
    }

    /** A puzzle with these letters and this goal, row by row. */
    static VowelTorus puzzle(int rows, int columns, String letters, String goal) {
        VowelTorus x = new VowelTorus();
        lay(x, rows, columns, letters, goal);
        return x;
    }

    static void lay(VowelTorus x, int rows, int columns, String letters, String goal) {
        x.board(rows, columns);
        for (int place = 0; place < rows * columns; place++) {
            if (x.letter(place) != letters.charAt(place)) {
                x.put(place, letters.charAt(place));
            }
            if (x.sign(place) != goal.charAt(place)) {
                x.goal(place, goal.charAt(place));
            }
        }
    }

    static VowelTorus sized(int rows, int columns) {
        VowelTorus x = new VowelTorus();
        x.board(rows, columns);
        return x;
    }

    /** A puzzle that is not new: with a line of text, an error position, a reason and characters in the input. */
    static VowelTorus used(int rows, int columns) {
        VowelTorus x = sized(rows, columns);
        x.put(1, 'k');
        x.goal(2, '.');
        x.turn(0);
        x.text();
        Check.answer(() -> run(x, "t0!"));
        Check.answer(() -> x.swap(1, 1));
        type(x, "t1");
        return x;
    }

    /** A puzzle of 3 by 3 with more changes than can be undone, and a snapshot that is none of these. */
    static VowelTorus rich() {
        VowelTorus x = used(2, 3);
        x.bar(3);
        x.save();
        x.turn(2);
        x.board(3, 3);
        x.put(2, 'l');
        x.goal(8, 'a');
        x.goal(4, '.');
        x.turn(7);
        x.bar(1);
        x.swap(3, 5);
        x.scramble(17, 4);
        x.bar(5);
        return x;
    }

    /** A new puzzle with these bars, by the numbers of their lines. */
    static VowelTorus barred(int... lines) {
        VowelTorus x = new VowelTorus();
        bar(x, lines);
        return x;
    }

    static VowelTorus allBarred(int rows, int columns) {
        VowelTorus x = sized(rows, columns);
        for (int line = 0; line < rows + columns; line++) {
            x.bar(line);
        }
        return x;
    }

    static void bar(VowelTorus x, int... lines) {
        for (int line : lines) {
            x.bar(line);
        }
    }

    static void turn(VowelTorus x, int... turns) {
        for (int turn : turns) {
            x.turn(turn);
        }
    }

    static void type(VowelTorus x, String text) {
        for (int i = 0; i < text.length(); i++) {
            x.append(text.charAt(i));
        }
    }

    static int run(VowelTorus x, String text) {
        type(x, text);
        return x.run();
    }
}
