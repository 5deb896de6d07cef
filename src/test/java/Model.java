import java.util.ArrayList;
import java.util.HashSet;
import java.util.List;
import java.util.NoSuchElementException;
import java.util.Set;
import java.util.regex.Matcher;
import java.util.regex.Pattern;

/** The document once more, in another and slower way: strings of letters, search by breadth, texts by a pattern. */
final class Model {
    private static final String ORDER =
        "(?:b[0-9][0-9]|p[0-9][a-l]|g[0-9][a-l.]|t[0-9]{1,3}|s[0-9][0-9]|x[0-9]|r[0-9]{1,3}/[0-9])";
    private static final Pattern TEXT = Pattern.compile(ORDER + "(?:;" + ORDER + ")*");

    /** What changes can change. */
    private static final class State implements Cloneable {
        int rows;
        int columns;
        String letters;
        String goal;
        Set<Integer> barred = new HashSet<>();
        int[] counts = new int[6];

        State copy() {
            State copy = new State();
            copy.rows = rows;
            copy.columns = columns;
            copy.letters = letters;
            copy.goal = goal;
            copy.barred = new HashSet<>(barred);
            copy.counts = counts.clone();
            return copy;
        }
    }

    private static final int TURNS = 0;
    private static final int SWAPS = 1;
    private static final int SCRAMBLES = 2;
    private static final int STEPS = 3;
    private static final int BOARDS = 4;
    private static final int REACHED = 5;

    private State s = new State();
    private final List<State> undos = new ArrayList<>();
    private State snapshot;
    private String line = "";
    private String input = "";
    private int error = -1;
    private int reason;
    private int detail;
    private boolean isInText;

    Model() {
        lay(3, 3);
    }

    private void lay(int rows, int columns) {
        s.rows = rows;
        s.columns = columns;
        s.letters = "abcdefghi".substring(0, rows * columns);
        s.goal = s.letters;
        s.barred.clear();
    }

    private int places() {
        return s.rows * s.columns;
    }

    private int lines() {
        return s.rows + s.columns;
    }

    private void keep() {
        if (!isInText) {
            undos.add(s.copy());
            if (undos.size() > 8) {
                undos.remove(0);
            }
        }
    }

    private void refuse(int why, int what) {
        reason = why;
        detail = what;
        throw new UnsupportedOperationException();
    }

    private static void index(int index, int length) {
        if (index < 0 || index >= length) {
            throw new IndexOutOfBoundsException();
        }
    }

    private static void argument(boolean isFine) {
        if (!isFine) {
            throw new IllegalArgumentException();
        }
    }

    private static <T> T element(T it) {
        if (it == null) {
            throw new NoSuchElementException();
        }
        return it;
    }

    private static String with(String text, int index, char sign) {
        return text.substring(0, index) + sign + text.substring(index + 1);
    }

    /** Where the letter of a place goes by a turn. */
    private int goes(int place, int turn) {
        int row = place / s.columns;
        int column = place % s.columns;
        int by = turn % 2 == 0 ? 1 : -1;
        if (turn / 2 == row) {
            column = Math.floorMod(column + by, s.columns);
        } else if (turn / 2 - s.rows == column) {
            row = Math.floorMod(row + by, s.rows);
        }
        return row * s.columns + column;
    }

    private String turned(String letters, int turn) {
        char[] behind = new char[letters.length()];
        for (int place = 0; place < behind.length; place++) {
            behind[goes(place, turn)] = letters.charAt(place);
        }
        return new String(behind);
    }

    private int homeOf(String letters) {
        int found = 0;
        for (int place = 0; place < places(); place++) {
            char sign = s.goal.charAt(place);
            found += sign == '.' || sign == letters.charAt(place) ? 1 : 0;
        }
        return found;
    }

    private boolean isReached(String letters) {
        return homeOf(letters) == places();
    }

    /** Breadth first from any letters; null if the goal is not 3 turns away, or fewer. */
    private Integer distance(String from) {
        Set<String> ring = new HashSet<>(List.of(from));
        for (int turns = 0; turns <= 3; turns++) {
            Set<String> next = new HashSet<>();
            for (String letters : ring) {
                if (isReached(letters)) {
                    return turns;
                }
                for (int turn = 0; turn < 2 * lines() && turns < 3; turn++) {
                    if (!s.barred.contains(turn / 2)) {
                        next.add(turned(letters, turn));
                    }
                }
            }
            ring = next;
        }
        return null;
    }

    private Integer first() {
        Integer away = distance(s.letters);
        if (away == null || away == 0) {
            return null;
        }
        for (int turn = 0; turn < 2 * lines(); turn++) {
            if (!s.barred.contains(turn / 2)) {
                Integer left = distance(turned(s.letters, turn));
                if (left != null && left == away - 1) {
                    return turn;
                }
            }
        }
        return null;
    }

    private static long often(String text, int sign) {
        return text.chars().filter(c -> c == sign).count();
    }

    /** Swaps letters to their places, one after the other. */
    private static boolean isOddBySwaps(String letters, String goal) {
        StringBuilder left = new StringBuilder(letters);
        boolean isOdd = false;
        for (int i = 0; i < goal.length(); i++) {
            int at = left.indexOf(goal.substring(i, i + 1));
            if (at != i) {
                left.setCharAt(at, left.charAt(i));
                left.setCharAt(i, goal.charAt(i));
                isOdd = !isOdd;
            }
        }
        return isOdd;
    }

    private boolean isUnlike(String letters) {
        return letters.chars().distinct().count() == letters.length();
    }

    int board(int rows, int columns) {
        argument((rows == 2 || rows == 3) && (columns == 2 || columns == 3));
        keep();
        lay(rows, columns);
        s.counts[BOARDS]++;
        return places();
    }

    char put(int place, char letter) {
        index(place, places());
        argument(letter >= 'a' && letter <= 'l');
        char old = s.letters.charAt(place);
        if (old == letter) {
            refuse(2, place);
        }
        keep();
        s.letters = with(s.letters, place, letter);
        return old;
    }

    char goal(int place, char sign) {
        index(place, places());
        argument(sign >= 'a' && sign <= 'l' || sign == '.');
        char old = s.goal.charAt(place);
        if (old == sign) {
            refuse(2, place);
        }
        keep();
        s.goal = with(s.goal, place, sign);
        return old;
    }

    private void make(int turn, boolean counts) {
        boolean was = isReached(s.letters);
        s.letters = turned(s.letters, turn);
        s.counts[TURNS]++;
        if (counts && !was && isReached(s.letters)) {
            s.counts[REACHED]++;
        }
    }

    int turn(int turn) {
        index(turn, 2 * lines());
        if (s.barred.contains(turn / 2)) {
            refuse(1, turn / 2);
        }
        keep();
        make(turn, true);
        return home();
    }

    int swap(int one, int other) {
        index(one, places());
        index(other, places());
        if (one == other) {
            refuse(3, one);
        }
        keep();
        char kept = s.letters.charAt(one);
        s.letters = with(with(s.letters, one, s.letters.charAt(other)), other, kept);
        s.counts[SWAPS]++;
        return home();
    }

    boolean bar(int line) {
        index(line, lines());
        keep();
        return s.barred.add(line) || !s.barred.remove(line);
    }

    int scramble(int seed, int turns) {
        argument(seed >= 0 && seed <= 999 && turns >= 1 && turns <= 9);
        keep();
        int made = 0;
        int next = seed;
        for (int i = 0; i < turns; i++) {
            next = (73 * next + 41) % 1000;
            int turn = next % (2 * lines());
            if (!s.barred.contains(turn / 2)) {
                make(turn, false);
                made++;
            }
        }
        s.counts[SCRAMBLES]++;
        return made;
    }

    int step() {
        if (isReached(s.letters)) {
            refuse(5, places());
        }
        if (isOut()) {
            refuse(4, places() - home());
        }
        int turn = element(first());
        keep();
        make(turn, true);
        s.counts[STEPS]++;
        return turn;
    }

    char letter(int place) {
        index(place, places());
        return s.letters.charAt(place);
    }

    char sign(int place) {
        index(place, places());
        return s.goal.charAt(place);
    }

    boolean isBarred(int line) {
        index(line, lines());
        return s.barred.contains(line);
    }

    int boardOf(int what) {
        argument(what >= 0 && what <= 6);
        int[] numbers = {s.rows, s.columns, 2 * lines(), 2 * (lines() - s.barred.size()),
            (int) s.letters.chars().distinct().count(),
            (int) s.letters.chars().filter(c -> "aeiou".indexOf(c) >= 0).count(),
            (int) often(s.goal, '.')};
        return numbers[what];
    }

    int away(boolean isAgain) {
        return element(distance(s.letters));
    }

    int firstTurn() {
        return element(first());
    }

    boolean isOut() {
        for (char sign = 'a'; sign <= 'l'; sign++) {
            if (often(s.goal, sign) > often(s.letters, sign)) {
                return true;
            }
        }
        if (places() < 9 || !isUnlike(s.letters) || often(s.goal, '.') > 1) {
            return false;
        }
        String full = s.goal;
        for (char sign : s.letters.toCharArray()) {
            if (full.indexOf(sign) < 0) {
                full = full.replace('.', sign);
            }
        }
        return isOddBySwaps(s.letters, full);
    }

    boolean isOdd(boolean isAgain) {
        boolean isTold = isUnlike(s.letters);
        for (char sign : s.letters.toCharArray()) {
            isTold = isTold && s.goal.indexOf(sign) >= 0;
        }
        element(isTold ? s : null);
        return isOddBySwaps(s.letters, s.goal);
    }

    int home() {
        return homeOf(s.letters);
    }

    int would(int turn) {
        index(turn, 2 * lines());
        return homeOf(turned(s.letters, turn));
    }

    int best() {
        Integer best = null;
        for (int turn = 2 * lines() - 1; turn >= 0; turn--) {
            if (!s.barred.contains(turn / 2) && (best == null || would(turn) >= would(best))) {
                best = turn;
            }
        }
        return element(best);
    }

    int where(int place, int turn, int times) {
        index(place, places());
        index(turn, 2 * lines());
        argument(times >= 0 && times <= 99);
        int at = place;
        for (int i = 0; i < times; i++) {
            at = goes(at, turn);
        }
        return at;
    }

    int far(int one, int other) {
        index(one, places());
        index(other, places());
        Set<Integer> reached = new HashSet<>(List.of(one));
        for (int steps = 0; steps < 9; steps++) {
            if (reached.contains(other)) {
                return steps;
            }
            for (int place : List.copyOf(reached)) {
                int row = place / s.columns;
                int column = place % s.columns;
                reached.add((row + 1) % s.rows * s.columns + column);
                reached.add((row + s.rows - 1) % s.rows * s.columns + column);
                reached.add(row * s.columns + (column + 1) % s.columns);
                reached.add(row * s.columns + (column + s.columns - 1) % s.columns);
            }
        }
        throw new AssertionError("no way round the torus");
    }

    private String lettersOf(int line) {
        StringBuilder letters = new StringBuilder();
        for (int place = 0; place < places(); place++) {
            if (place / s.columns == line || s.rows + place % s.columns == line) {
                letters.append(s.letters.charAt(place));
            }
        }
        return letters.toString();
    }

    boolean sings(int line) {
        index(line, lines());
        String letters = lettersOf(line);
        String round = letters + letters.charAt(0);
        return letters.matches(".*[aeiou].*") && !round.matches(".*[aeiou][aeiou].*");
    }

    int singing() {
        int found = 0;
        for (int i = 0; i < lines(); i++) {
            found += sings(i) ? 1 : 0;
        }
        return found;
    }

    int ranked(int place) {
        List<Integer> order = new ArrayList<>();
        for (int i = 0; i < lines(); i++) {
            order.add(i);
        }
        order.sort((one, other) -> lettersOf(one).replaceAll("[aeiou]", "").length() - lettersOf(one).length()
            - lettersOf(other).replaceAll("[aeiou]", "").length() + lettersOf(other).length());
        return element(place < 0 || place >= order.size() ? null : order.get(place));
    }

    private int write(String text) {
        line = text;
        return line.length();
    }

    private String inRows(String text) {
        return text.replaceAll("(.{" + s.columns + "})(?!$)", "$1/");
    }

    int text() {
        return write(inRows(s.letters));
    }

    int goalText() {
        return write(inRows(s.goal));
    }

    int lineText(int number) {
        index(number, lines());
        return write((s.barred.contains(number) ? "#" : "") + lettersOf(number) + (sings(number) ? "!" : ""));
    }

    char character(int index) {
        index(index, line.length());
        return line.charAt(index);
    }

    int append(char c) {
        if (input.length() == 60) {
            throw new IllegalStateException();
        }
        input += c;
        return input.length();
    }

    /** The first character with which no text can begin any more, as a pattern's engine tells it. */
    private static int errorOf(String text) {
        for (int i = 0; i <= text.length(); i++) {
            Matcher beginning = TEXT.matcher(text.substring(0, i));
            if (!beginning.matches() && !beginning.hitEnd()) {
                return i - 1;
            }
        }
        return TEXT.matcher(text).matches() ? -1 : text.length();
    }

    int run() {
        String text = input;
        input = "";
        error = errorOf(text);
        argument(error < 0);
        State before = s.copy();
        isInText = true;
        int orders = 0;
        try {
            for (String order : text.split(";")) {
                carryOut(order);
                orders++;
            }
        } catch (UnsupportedOperationException e) {
            s = before;
            throw e;
        } catch (RuntimeException e) {
            s = before;
            throw new IllegalArgumentException();
        } finally {
            isInText = false;
        }
        State behind = s;
        s = before;
        keep();
        s = behind;
        return orders;
    }

    private void carryOut(String order) {
        String[] parts = order.substring(1).split("/");
        int one = parts[0].charAt(0) - '0';
        switch (order.charAt(0)) {
            case 'b' -> board(one, parts[0].charAt(1) - '0');
            case 'p' -> put(one, parts[0].charAt(1));
            case 'g' -> goal(one, parts[0].charAt(1));
            case 't' -> turn(Integer.parseInt(parts[0]));
            case 's' -> swap(one, parts[0].charAt(1) - '0');
            case 'x' -> bar(one);
            default -> scramble(Integer.parseInt(parts[0]), Integer.parseInt(parts[1]));
        }
    }

    int errorPosition() {
        return error;
    }

    int refusal(boolean isDetail) {
        element(reason == 0 ? null : s);
        return isDetail ? detail : reason;
    }

    int account(int what) {
        argument(what >= 0 && what <= 9);
        int[] accounts = {places(), s.barred.size(), s.counts[TURNS], s.counts[SWAPS], s.counts[SCRAMBLES],
            s.counts[STEPS], s.counts[BOARDS], s.counts[REACHED], input.length(), undos.size()};
        return accounts[what];
    }

    boolean isWell() {
        return true;
    }

    double meanFar() {
        double sum = 0;
        double found = 0;
        for (int place = 0; place < places(); place++) {
            if (often(s.letters, s.goal.charAt(place)) == 1) {
                sum += far(place, s.letters.indexOf(s.goal.charAt(place)));
                found++;
            }
        }
        if (found == 0) {
            throw new ArithmeticException();
        }
        return sum / found;
    }

    float homeShare() {
        return (float) home() / places();
    }

    int undo() {
        if (undos.isEmpty()) {
            throw new IllegalStateException();
        }
        s = undos.remove(undos.size() - 1);
        return undos.size();
    }

    int save() {
        snapshot = s.copy();
        return home();
    }

    int restore() {
        if (snapshot == null) {
            throw new IllegalStateException();
        }
        s = snapshot.copy();
        undos.clear();
        return home();
    }
}
