/** Long runs of calls, each answered alike by the class and by the model of it. */
final class ModelTests {
    private static final int RUNS = 240;
    private static final int CALLS = 512;
    private static final String SIGNS = "abcdefghijkl.m`A0;";
    private static final String[] WORDS = {"t0", "t1", "t4", "t07", "t011", "t12", "b33", "b23", "b22", "b14", "p0a",
        "p3l", "p9a", "p5e", "g0.", "g4.", "g8b", "g9c", "s01", "s38", "s22", "x0", "x3", "x6",
        "r17/4", "r999/9", "r10/7", "r308/5", "t10",
        "r5/0", "r1234/1", "t", "p0", ""};

    private final VowelTorus x = new VowelTorus();
    private final Model m = new Model();
    private final int run;
    private long seed;

    private ModelTests(int run) {
        this.run = run;
        seed = 77L * run + 5L;
    }

    static void addTo(AllTests all) {
        all.add("1 to 40 by a model, calls of all kinds", () -> playAll(0));
        all.add("1 to 40 by a model, near the goal", () -> playAll(RUNS));
    }

    private static void playAll(int from) {
        for (int run = from; run < from + RUNS; run++) {
            ModelTests one = new ModelTests(run);
            for (int call = 0; call < CALLS; call++) {
                if (from == 0 || one.chance(3)) {
                    one.any();
                } else {
                    one.near();
                }
            }
        }
    }

    private int next(int bound) {
        seed = seed * 6364136223846793005L + 1442695040888963407L;
        return (int) ((seed >>> 33) % bound);
    }

    private boolean chance(int oneIn) {
        return next(oneIn) == 0;
    }

    private int number(int bound) {
        switch (next(40)) {
            case 0:
                return -1;
            case 1:
                return bound;
            case 2:
                return Integer.MIN_VALUE;
            case 3:
                return Integer.MAX_VALUE;
            default:
                return next(bound);
        }
    }

    private int place() {
        return number(m.account(0));
    }

    private int line() {
        return number(m.boardOf(0) + m.boardOf(1));
    }

    private int turn() {
        return number(m.boardOf(2));
    }

    private char sign() {
        return SIGNS.charAt(next(SIGNS.length()));
    }

    private void same(String call, Check.Call one, Check.Call other) {
        Check.is("run " + run + ": " + call, Check.answer(other), Check.answer(one));
    }

    /** Changes that leave the goal some turns away, and the questions that are harder then. */
    private void near() {
        int turn = turn();
        switch (next(12)) {
            case 0, 1, 2, 3 -> same("turn(" + turn + ")", () -> x.turn(turn), () -> m.turn(turn));
            case 4 -> same("undo()", x::undo, m::undo);
            case 5 -> same("restore()", x::restore, m::restore);
            case 6 -> same("step()", x::step, m::step);
            case 7 -> {
                int place = place();
                same("goal(" + place + ", .)", () -> x.goal(place, '.'), () -> m.goal(place, '.'));
            }
            case 8 -> {
                int line = line();
                same("bar(" + line + ")", () -> x.bar(line), () -> m.bar(line));
            }
            default -> {
                same("away(false)", () -> x.away(false), () -> m.away(false));
                same("away(true)", () -> x.away(true), () -> m.away(true));
                same("firstTurn()", x::firstTurn, m::firstTurn);
                same("isOut()", x::isOut, m::isOut);
            }
        }
    }

    private void any() {
        switch (next(5)) {
            case 0 -> change();
            case 1 -> askBoard();
            case 2 -> askWays();
            case 3 -> askText();
            default -> askRest();
        }
    }

    private void change() {
        int a = next(12);
        switch (a) {
            case 0 -> {
                int rows = chance(4) ? number(5) : 3;
                int columns = chance(4) ? number(5) : 2 + next(2);
                same("board(" + rows + ", " + columns + ")", () -> x.board(rows, columns),
                    () -> m.board(rows, columns));
            }
            case 1, 2 -> {
                int place = place();
                char sign = sign();
                same("put(" + place + ", " + sign + ")", () -> x.put(place, sign), () -> m.put(place, sign));
            }
            case 3, 4 -> {
                int place = place();
                char sign = sign();
                same("goal(" + place + ", " + sign + ")", () -> x.goal(place, sign), () -> m.goal(place, sign));
            }
            case 5, 6 -> {
                int turn = turn();
                same("turn(" + turn + ")", () -> x.turn(turn), () -> m.turn(turn));
            }
            case 7, 8 -> {
                int one = place();
                int other = place();
                same("swap(" + one + ", " + other + ")", () -> x.swap(one, other), () -> m.swap(one, other));
            }
            case 9 -> {
                int line = line();
                same("bar(" + line + ")", () -> x.bar(line), () -> m.bar(line));
            }
            case 10 -> {
                int seed = number(1000);
                int turns = number(11);
                same("scramble(" + seed + ", " + turns + ")", () -> x.scramble(seed, turns),
                    () -> m.scramble(seed, turns));
            }
            default -> same("step()", x::step, m::step);
        }
    }

    private void askBoard() {
        int place = place();
        int line = line();
        int what = number(8);
        int rank = line();
        switch (next(7)) {
            case 0 -> same("letter(" + place + ")", () -> x.letter(place), () -> m.letter(place));
            case 1 -> same("sign(" + place + ")", () -> x.sign(place), () -> m.sign(place));
            case 2 -> same("isBarred(" + line + ")", () -> x.isBarred(line), () -> m.isBarred(line));
            case 3 -> same("boardOf(" + what + ")", () -> x.boardOf(what), () -> m.boardOf(what));
            case 4 -> same("sings(" + line + ")", () -> x.sings(line), () -> m.sings(line));
            case 5 -> same("singing()", x::singing, m::singing);
            default -> same("ranked(" + rank + ")", () -> x.ranked(rank), () -> m.ranked(rank));
        }
    }

    private void askWays() {
        int place = place();
        int other = place();
        int turn = turn();
        int times = number(101);
        boolean isAgain = chance(2);
        switch (next(9)) {
            case 0 -> same("away(" + isAgain + ")", () -> x.away(isAgain), () -> m.away(isAgain));
            case 1 -> same("firstTurn()", x::firstTurn, m::firstTurn);
            case 2 -> same("isOut()", x::isOut, m::isOut);
            case 3 -> same("isOdd(" + isAgain + ")", () -> x.isOdd(isAgain), () -> m.isOdd(isAgain));
            case 4 -> same("home()", x::home, m::home);
            case 5 -> same("would(" + turn + ")", () -> x.would(turn), () -> m.would(turn));
            case 6 -> same("best()", x::best, m::best);
            case 7 -> same("where(" + place + ", " + turn + ", " + times + ")", () -> x.where(place, turn, times),
                () -> m.where(place, turn, times));
            default -> same("far(" + place + ", " + other + ")", () -> x.far(place, other), () -> m.far(place, other));
        }
    }

    private void askText() {
        int line = line();
        int index = number(12);
        switch (next(8)) {
            case 0 -> same("text()", x::text, m::text);
            case 1 -> same("goalText()", x::goalText, m::goalText);
            case 2 -> same("lineText(" + line + ")", () -> x.lineText(line), () -> m.lineText(line));
            case 3 -> same("character(" + index + ")", () -> x.character(index), () -> m.character(index));
            case 4 -> same("errorPosition()", x::errorPosition, m::errorPosition);
            case 5 -> same("run()", x::run, m::run);
            default -> type();
        }
    }

    private void type() {
        StringBuilder text = new StringBuilder(WORDS[next(WORDS.length)]);
        while (!chance(3)) {
            text.append(chance(30) ? "," : ";").append(WORDS[next(WORDS.length)]);
        }
        if (chance(20)) {
            text.append((char) next(400));
        }
        for (char c : text.toString().toCharArray()) {
            same("append(" + c + ")", () -> x.append(c), () -> m.append(c));
        }
        if (!chance(4)) {
            same("run() of " + text, x::run, m::run);
        }
    }

    private void askRest() {
        int what = number(11);
        boolean isDetail = chance(2);
        switch (next(9)) {
            case 0, 1 -> same("account(" + what + ")", () -> x.account(what), () -> m.account(what));
            case 2 -> same("refusal(" + isDetail + ")", () -> x.refusal(isDetail), () -> m.refusal(isDetail));
            case 3 -> same("isWell()", x::isWell, m::isWell);
            case 4 -> same("meanFar()", x::meanFar, m::meanFar);
            case 5 -> same("homeShare()", x::homeShare, m::homeShare);
            case 6 -> same("undo()", x::undo, m::undo);
            case 7 -> same("save()", x::save, m::save);
            default -> same("restore()", x::restore, m::restore);
        }
    }
}
