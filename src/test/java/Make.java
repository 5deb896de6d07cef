/** Puzzles as tests want them. */
final class Make {
    private Make() {
    }

    /** A puzzle with these letters and this goal, row by row. */
    static VowelTorus puzzle(int rows, int columns, String letters, String goal) {
        VowelTorus x = new VowelTorus();
        lay(x, rows, columns, letters, goal);
        return x;
    }

    static void lay(VowelTorus x, int rows, int columns, String letters, String goal) {
        x.board(rows, columns);
        for (int place = 0; place < rows * columns; place++) {
            if (x.letter(place) != letters.charAt(place)) {
                x.put(place, letters.charAt(place));
            }
            if (x.sign(place) != goal.charAt(place)) {
                x.goal(place, goal.charAt(place));
            }
        }
    }

    /** A new puzzle with these bars, by the numbers of their lines. */
    static VowelTorus barred(int... lines) {
        VowelTorus x = new VowelTorus();
        for (int line : lines) {
            x.bar(line);
        }
        return x;
    }

    static void turn(VowelTorus x, int... turns) {
        for (int turn : turns) {
            x.turn(turn);
        }
    }

    static void type(VowelTorus x, String text) {
        for (int i = 0; i < text.length(); i++) {
            x.append(text.charAt(i));
        }
    }

    static int run(VowelTorus x, String text) {
        type(x, text);
        return x.run();
    }
}
