/** What can be seen of a puzzle without a change of its line of text. */
final class Look {
    private Look() {
    }

    static String all(VowelTorus x) {
        return allButReason(x) + " refused " + Check.answer(() -> x.refusal(false)) + " "
            + Check.answer(() -> x.refusal(true));
    }

    static String allButReason(VowelTorus x) {
        return state(x) + " line " + line(x) + " error " + x.errorPosition();
    }

    /** All but the line of text, the error position and the reason. */
    static String state(VowelTorus x) {
        StringBuilder seen = new StringBuilder(board(x));
        for (int what = 0; what <= 9; what++) {
            seen.append(' ').append(x.account(what));
        }
        return seen.toString();
    }

    /** What can be undone and what is saved, too; the puzzle is used up by this. */
    static String toTheEnd(VowelTorus x) {
        StringBuilder seen = new StringBuilder(allButReason(x));
        while (x.account(9) > 0) {
            x.undo();
            seen.append(" undone ").append(state(x));
        }
        return seen.append(" saved ").append(Check.answer(x::restore)).append(state(x)).toString();
    }

    static String board(VowelTorus x) {
        return letters(x) + " " + goal(x) + " " + bars(x) + " " + x.boardOf(0) + "x" + x.boardOf(1);
    }

    /** The turns, swaps, scrambles, steps and boards made, and the goals reached. */
    static String counts(VowelTorus x) {
        StringBuilder seen = new StringBuilder();
        for (int what = 2; what <= 7; what++) {
            seen.append(what == 2 ? "" : " ").append(x.account(what));
        }
        return seen.toString();
    }

    static String letters(VowelTorus x) {
        StringBuilder seen = new StringBuilder();
        for (int place = 0; place < x.account(0); place++) {
            seen.append(x.letter(place));
        }
        return seen.toString();
    }

    static String goal(VowelTorus x) {
        StringBuilder seen = new StringBuilder();
        for (int place = 0; place < x.account(0); place++) {
            seen.append(x.sign(place));
        }
        return seen.toString();
    }

    static String bars(VowelTorus x) {
        StringBuilder seen = new StringBuilder();
        for (int line = 0; line < x.boardOf(0) + x.boardOf(1); line++) {
            seen.append(x.isBarred(line) ? '#' : '-');
        }
        return seen.toString();
    }

    /** The line of text as it stands. */
    static String line(VowelTorus x) {
        StringBuilder seen = new StringBuilder();
        for (int i = 0; i < 100; i++) {
            try {
                seen.append(x.character(i));
            } catch (IndexOutOfBoundsException e) {
                return seen.toString();
            }
        }
        return seen.toString();
    }
}
