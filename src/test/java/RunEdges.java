import java.util.NoSuchElementException;

/** Promises 31 to 33, case by case: the numbers of orders, where a text is wrong, and what is refused first. */
final class RunEdges {
    private static final Class<IndexOutOfBoundsException> NO_INDEX = IndexOutOfBoundsException.class;
    private static final Class<IllegalArgumentException> NO_ARGUMENT = IllegalArgumentException.class;
    private static final Class<UnsupportedOperationException> REFUSED = UnsupportedOperationException.class;
    private static final Class<NoSuchElementException> NONE = NoSuchElementException.class;
    private static final String NEW = "abcdefghi abcdefghi ------ 3x3";

    private RunEdges() {
    }

    static void addTo(AllTests all) {
        runOrders(all);
        runWrongBoards(all);
        runWrongNumbers(all);
        runSmallBoards(all);
        runCounts(all);
        runRefused(all);
        runFirst(all);
        runNothing(all);
        runInput(all);
        errorEmpty(all);
        errorLetters(all);
        errorNumbers(all);
        errorBetween(all);
        errorSigns(all);
        errorStays(all);
        refusal(all);
        refusalStays(all);
    }

    // Promise 31.

    /** Carries out a text, that is one change, behind a new object. */
    private static void runs(AllTests all, String name, String text, int orders, String due) {
        all.add("31 run: " + name + ", " + text, () -> {
            VowelTorus x = new VowelTorus();
            Check.is("run", orders, Make.run(x, text));
            Check.is("the board", due, Look.board(x));
            Check.is("the error position", -1, x.errorPosition());
            Check.is("the input", 0, x.account(8));
            Check.is("what can be undone", 1, x.account(9));
            Check.fails("refusal", NONE, () -> x.refusal(false));
            Check.is("undo", 0, x.undo());
            Check.is("the state", NEW + " 9 0 0 0 0 0 0 0 0 0", Look.state(x));
        });
    }

    private static void runOrders(AllTests all) {
        runs(all, "the smallest board", "b22", 1, "abcd abcd ---- 2x2");
        runs(all, "the largest board", "b33", 1, NEW);
        runs(all, "a board of 2 rows", "b23", 1, "abcdef abcdef ----- 2x3");
        runs(all, "a board of 2 columns", "b32", 1, "abcdef abcdef ----- 3x2");
        runs(all, "the last letter at the first place", "p0l", 1, "lbcdefghi abcdefghi ------ 3x3");
        runs(all, "the first letter at the last place", "p8a", 1, "abcdefgha abcdefghi ------ 3x3");
        runs(all, "a goal with . at the first place", "g0.", 1, "abcdefghi .bcdefghi ------ 3x3");
        runs(all, "a goal with the last letter at the last place", "g8l", 1, "abcdefghi abcdefghl ------ 3x3");
        runs(all, "a goal with the first letter", "g8a", 1, "abcdefghi abcdefgha ------ 3x3");
        runs(all, "the first turn", "t0", 1, "cabdefghi abcdefghi ------ 3x3");
        runs(all, "the last turn", "t11", 1, "abfdeighc abcdefghi ------ 3x3");
        runs(all, "a turn of one digit, the highest", "t9", 1, "aecdhfgbi abcdefghi ------ 3x3");
        runs(all, "a turn of three digits", "t011", 1, "abfdeighc abcdefghi ------ 3x3");
        runs(all, "the first turn by three digits", "t000", 1, "cabdefghi abcdefghi ------ 3x3");
        runs(all, "a swap of the first and the last place", "s08", 1, "ibcdefgha abcdefghi ------ 3x3");
        runs(all, "a swap of the last and the first place", "s80", 1, "ibcdefgha abcdefghi ------ 3x3");
        runs(all, "a bar of the first line", "x0", 1, "abcdefghi abcdefghi #----- 3x3");
        runs(all, "a bar of the last line", "x5", 1, "abcdefghi abcdefghi -----# 3x3");
        runs(all, "a scramble by the lowest seed", "r0/1", 1, "abcdefhig abcdefghi ------ 3x3");
        runs(all, "a scramble by the lowest seed of three digits", "r000/1", 1, "abcdefhig abcdefghi ------ 3x3");
        runs(all, "a scramble by the highest seed", "r999/1", 1, "ahcdbfgei abcdefghi ------ 3x3");
        runs(all, "a scramble with the most turns", "r0/9", 1, Look.board(scrambled(0, 9)));
        runs(all, "a scramble with the most turns by the highest seed", "r999/9", 1, Look.board(scrambled(999, 9)));
        runs(all, "a scramble by a seed of two digits", "r14/1", 1, "abcefdghi abcdefghi ------ 3x3");
        runs(all, "a scramble that makes no turn", "x2;r0/1", 2, "abcdefghi abcdefghi --#--- 3x3");
    }

    private static VowelTorus scrambled(int seed, int turns) {
        VowelTorus x = new VowelTorus();
        x.scramble(seed, turns);
        return x;
    }

    /** The method for an order throws another exception; the text has no error, and nothing is carried out. */
    private static void cannot(AllTests all, String name, String text) {
        all.add("31 run: " + name + ", " + text, () -> {
            VowelTorus x = Make.rich();
            VowelTorus y = Make.rich();
            Check.answer(x::run);
            Check.answer(y::run);
            Make.type(x, text);
            Check.fails("run", NO_ARGUMENT, x::run);
            Check.is("the error position", -1, x.errorPosition());
            Check.is("the reason", y.refusal(false), x.refusal(false));
            Check.is("all behind it", Look.toTheEnd(y), Look.toTheEnd(x));
        });
    }

    private static void runWrongBoards(AllTests all) {
        cannot(all, "too few rows", "b12");
        cannot(all, "too many rows", "b43");
        cannot(all, "too few columns", "b31");
        cannot(all, "too many columns", "b24");
        cannot(all, "no rows and columns", "b00");
        cannot(all, "most rows and columns that digits can tell", "b99");
        cannot(all, "too large a board behind one that can be", "b22;b34");
        cannot(all, "too large a board behind all other orders", "b22;p0l;g3.;t1;s03;x0;r5/2;b41");
    }

    private static void runWrongNumbers(AllTests all) {
        cannot(all, "no such place for a letter", "p9a");
        cannot(all, "no such place for a goal", "g9a");
        cannot(all, "no such place for a .", "g9.");
        cannot(all, "no such turn", "t12");
        cannot(all, "no such turn by three digits", "t012");
        cannot(all, "no such turn, the highest number", "t999");
        cannot(all, "no such place to swap, the one", "s90");
        cannot(all, "no such place to swap, the other", "s09");
        cannot(all, "no such place to swap, both, ahead of both being one", "s99");
        cannot(all, "no such line", "x6");
        cannot(all, "no such line, the highest number", "x9");
        cannot(all, "too few turns of a scramble", "r0/0");
        cannot(all, "too few turns of a scramble by the highest seed", "r999/0");
        cannot(all, "no such place behind orders that can be", "x0;x0;p9a");
    }

    private static void runSmallBoards(AllTests all) {
        runs(all, "the last place of 2 by 2", "b22;p3l", 2, "abcl abcd ---- 2x2");
        runs(all, "the last place of 2 by 3", "b23;g5.", 2, "abcdef abcde. ----- 2x3");
        runs(all, "the last turn of 2 by 2", "b22;t7", 2, "adcb abcd ---- 2x2");
        runs(all, "the last turn of 3 by 2", "b32;t9", 2, "adcfeb abcdef ----- 3x2");
        runs(all, "the last line of 2 by 2", "b22;x3", 2, "abcd abcd ---# 2x2");
        runs(all, "the last line of 2 by 3", "b23;x4", 2, "abcdef abcdef ----# 2x3");
        runs(all, "a place of the larger board behind a smaller one", "b22;b33;p8l", 3,
            "abcdefghl abcdefghi ------ 3x3");
        cannot(all, "the place behind the last of 2 by 2", "b22;p4l");
        cannot(all, "the place behind the last of 2 by 3", "b23;g6.");
        cannot(all, "the turn behind the last of 2 by 2", "b22;t8");
        cannot(all, "the turn behind the last of 3 by 2", "b32;t10");
        cannot(all, "the line behind the last of 2 by 2", "b22;x4");
        cannot(all, "the line behind the last of 2 by 3", "b23;x5");
        cannot(all, "the place to swap behind the last of 2 by 2", "b22;s04");
    }

    private static void runCounts(AllTests all) {
        runs(all, "one order, the fewest", "t1", 1, "bcadefghi abcdefghi ------ 3x3");
        runs(all, "two orders", "t1;t0", 2, NEW);
        runs(all, "20 orders in 59 characters, the most", "x0;".repeat(19) + "x1", 20,
            "abcdefghi abcdefghi ##---- 3x3");
        runs(all, "60 characters, the most", "s01;".repeat(14) + "t000", 15, "cabdefghi abcdefghi ------ 3x3");
        runs(all, "each order works behind those before", "p0l;g0l;s01;t1", 4,
            "lcbdefghi lbcdefghi ------ 3x3");
        all.add("31 run: counts what its orders count, and goals reached by its turns", () -> {
            VowelTorus x = new VowelTorus();
            Make.run(x, "t0;t1;s01;s01;r383/1;t1;b22");
            Check.is("the counts", "4 2 1 0 1 2", Look.counts(x));
        });
        all.add("31 run: a goal reached by a scramble, a swap, a letter or a sign of it does not count", () -> {
            VowelTorus x = new VowelTorus();
            Make.run(x, "t1;r383/1;s01;s01;p0l;p0a;g0.;g0a;b22;b33");
            Check.is("the counts", "2 2 1 0 2 0", Look.counts(x));
        });
        all.add("31 run: is one change, of the latest 8", () -> {
            VowelTorus x = new VowelTorus();
            for (int i = 0; i < 9; i++) {
                Make.run(x, "t0;t2;x5");
            }
            Check.is("what can be undone", 8, x.account(9));
            for (int left = 7; left >= 0; left--) {
                Check.is("undo", left, x.undo());
            }
            Check.is("the turns made", 2, x.account(2));
            Check.is("the bars", "-----#", Look.bars(x));
        });
    }

    /** An order is refused: the reason is kept, the text has no error, and nothing is carried out. */
    private static void refused(AllTests all, String name, String text, int reason, int detail) {
        all.add("31 run: refused, " + name + ", " + text, () -> {
            VowelTorus x = Make.rich();
            VowelTorus y = Make.rich();
            Check.answer(x::run);
            Check.answer(y::run);
            Make.type(x, text);
            Check.fails("run", REFUSED, x::run);
            Check.is("the reason", reason, x.refusal(false));
            Check.is("the detail", detail, x.refusal(true));
            Check.is("the error position", -1, x.errorPosition());
            Check.is("all behind it", Look.toTheEnd(y), Look.toTheEnd(x));
        });
    }

    private static void runRefused(AllTests all) {
        refused(all, "the first line is barred", "b33;x0;t0", 1, 0);
        refused(all, "the first line is barred, its other turn", "b33;x0;t1", 1, 0);
        refused(all, "the last line is barred", "b33;x5;t11", 1, 5);
        refused(all, "a line that was barred ahead of the text", "t2", 1, 1);
        refused(all, "the letter is there already", "b33;p8i", 2, 8);
        refused(all, "the letter is there already, put by the text", "b33;p0l;p0l", 2, 0);
        refused(all, "the goal is so already", "b22;g3d", 2, 3);
        refused(all, "the . is there already", "g4.", 2, 4);
        refused(all, "both places are one", "s00", 3, 0);
        refused(all, "both places are the last", "s88", 3, 8);
        refused(all, "the last of many orders", "s01;s01;s01;s01;s01;s01;s01;s01;s01;s01;s01;s01;s01;s01;s22", 3, 2);
    }

    private static void runFirst(AllTests all) {
        refused(all, "ahead of a place that is not there", "s00;p9a", 3, 0);
        refused(all, "ahead of a board that cannot be", "b33;p0a;b14", 2, 0);
        refused(all, "ahead of another refusal", "s11;s22", 3, 1);
        cannot(all, "a place that is not there comes ahead of a refusal", "p9a;s00");
        cannot(all, "a board that cannot be comes ahead of a refusal", "b14;s00");
        all.add("31 run: an error of the text comes ahead of a refusal, which is not kept", () -> {
            VowelTorus x = new VowelTorus();
            Check.fails("run", NO_ARGUMENT, () -> Make.run(x, "s00;s"));
            Check.is("the error position", 5, x.errorPosition());
            Check.fails("refusal", NONE, () -> x.refusal(false));
        });
        all.add("31 run: an error of the text comes ahead of a place that is not there", () -> {
            VowelTorus x = new VowelTorus();
            Check.fails("run", NO_ARGUMENT, () -> Make.run(x, "p9a;q"));
            Check.is("the error position", 4, x.errorPosition());
        });
        all.add("31 run: a refusal that is not the first that cannot be is not kept", () -> {
            VowelTorus x = new VowelTorus();
            Check.fails("run", NO_ARGUMENT, () -> Make.run(x, "t99;s00"));
            Check.fails("refusal", NONE, () -> x.refusal(true));
        });
    }

    private static void runNothing(AllTests all) {
        String[][] failing = {{"an error of the text", "b22;x0;t"}, {"an error at its start", "q"},
            {"a place that is not there", "b22;x0;p9a"}, {"a refusal", "b22;x0;t0"},
            {"a refusal behind all other orders", "b22;p0l;g3.;t1;s03;x0;r5/2;x0;s11"}};
        for (String[] one : failing) {
            all.add("31 run: nothing of it is carried out, " + one[0], () -> {
                VowelTorus x = Make.rich();
                VowelTorus y = Make.rich();
                Check.answer(x::run);
                Check.answer(y::run);
                Make.type(x, one[1]);
                Check.isTrue("it fails", Check.answer(x::run).startsWith("throws"));
                Check.is("the state", Look.state(y), Look.state(x));
                while (y.account(9) > 0) {
                    Check.is("undo", y.undo(), x.undo());
                    Check.is("the state", Look.state(y), Look.state(x));
                }
                Check.is("restore", y.restore(), x.restore());
                Check.is("the state", Look.state(y), Look.state(x));
            });
        }
        all.add("31 run: nothing of it is carried out, and the next text is", () -> {
            VowelTorus x = new VowelTorus();
            Check.fails("run", REFUSED, () -> Make.run(x, "t0;t2;s00"));
            Check.is("run", 1, Make.run(x, "t0"));
            Check.is("the letters", "cabdefghi", Look.letters(x));
            Check.is("the turns made", 1, x.account(2));
        });
    }

    private static void runInput(AllTests all) {
        String[][] texts = {{"carried out", "t0"}, {"with an error", "t"}, {"that cannot be", "t99"},
            {"that is refused", "s00"}, {"that is empty", ""}, {"of 60 characters", ";".repeat(60)}};
        for (String[] one : texts) {
            all.add("31 run: the input is empty behind a text " + one[0], () -> {
                VowelTorus x = new VowelTorus();
                Make.type(x, one[1]);
                Check.is("the input ahead of it", one[1].length(), x.account(8));
                Check.answer(x::run);
                Check.is("the input behind it", 0, x.account(8));
                Check.is("append", 1, x.append('t'));
                Check.is("append", 2, x.append('2'));
                Check.is("run", 1, x.run());
            });
        }
        all.add("31 run: a shorter text behind a longer one", () -> {
            VowelTorus x = new VowelTorus();
            Make.run(x, "t0;t2;t4");
            Check.is("run", 1, Make.run(x, "t1"));
            Check.is("run", 2, Make.run(x, "t3;t5"));
            Check.is("the board", NEW, Look.board(x));
        });
        all.add("31 run: the input is not restored by undo", () -> {
            VowelTorus x = new VowelTorus();
            Make.run(x, "t0");
            x.undo();
            Check.is("the input", 0, x.account(8));
            Check.fails("run", NO_ARGUMENT, x::run);
        });
    }

    // Promise 32.

    private static void wrong(AllTests all, String name, String text, int due) {
        all.add("32 errorPosition: " + due + " of \"" + text + "\", " + name, () -> {
            VowelTorus x = new VowelTorus();
            Make.type(x, text);
            Check.fails("run", NO_ARGUMENT, x::run);
            Check.is("the error position", due, x.errorPosition());
            Check.is("the state", NEW + " 9 0 0 0 0 0 0 0 0 0", Look.state(x));
            Check.fails("refusal", NONE, () -> x.refusal(false));
        });
    }

    private static void errorEmpty(AllTests all) {
        wrong(all, "it ends too early", "", 0);
        wrong(all, "a semicolon alone", ";", 0);
        for (char kind : "bpgtsxr".toCharArray()) {
            wrong(all, "it ends behind a letter", String.valueOf(kind), 1);
            wrong(all, "a semicolon behind a letter", kind + ";", 1);
            wrong(all, "a letter behind a letter", kind + "a", 1);
            wrong(all, "a space behind a letter", kind + " 1", 1);
            wrong(all, "the sign before 0 behind a letter", kind + "/1", 1);
            wrong(all, "the sign behind 9 behind a letter", kind + ":1", 1);
            wrong(all, "a capital", String.valueOf((char) (kind - 32)) + "0", 0);
        }
        for (char kind : "acdefhijklmnoquvwyz0.".toCharArray()) {
            wrong(all, "no such order", kind + "1", 0);
        }
    }

    private static void errorLetters(AllTests all) {
        wrong(all, "it ends ahead of the letter", "p0", 2);
        wrong(all, "the letter behind the last", "p0m", 2);
        wrong(all, "the sign before a", "p0`", 2);
        wrong(all, "a . is no letter", "p0.", 2);
        wrong(all, "a capital letter", "p0A", 2);
        wrong(all, "a digit for a letter", "p00", 2);
        wrong(all, "a semicolon for a letter", "p0;", 2);
        wrong(all, "a second letter", "p0ll", 3);
        wrong(all, "it ends ahead of the sign", "g0", 2);
        wrong(all, "the letter behind the last", "g0m", 2);
        wrong(all, "the sign before .", "g0-", 2);
        wrong(all, "the sign behind .", "g0/", 2);
        wrong(all, "a digit for a sign", "g00", 2);
        wrong(all, "a second sign", "g0..", 3);
        wrong(all, "no digit ahead of the sign", "g.", 1);
    }

    private static void errorNumbers(AllTests all) {
        wrong(all, "it ends behind one digit", "b2", 2);
        wrong(all, "a semicolon behind one digit", "b2;", 2);
        wrong(all, "a third digit", "b222", 3);
        wrong(all, "it ends behind one digit", "s0", 2);
        wrong(all, "a letter behind one digit", "s0a", 2);
        wrong(all, "a third digit", "s012", 3);
        wrong(all, "a second digit", "x00", 2);
        wrong(all, "a fourth digit", "t0000", 4);
        wrong(all, "a sign behind one digit", "t1/", 2);
        wrong(all, "a sign behind two digits", "t11.", 3);
        wrong(all, "a sign behind three digits", "t011:", 4);
        wrong(all, "a minus ahead of a number", "t-1", 1);
        wrong(all, "a plus ahead of a number", "t+1", 1);
        wrong(all, "it ends behind a digit of the seed", "r1", 2);
        wrong(all, "it ends behind three digits of the seed", "r123", 4);
        wrong(all, "a fourth digit of the seed", "r1000/1", 4);
        wrong(all, "a semicolon behind the seed", "r1;", 2);
        wrong(all, "no seed", "r/1", 1);
        wrong(all, "it ends behind /", "r1/", 3);
        wrong(all, "a letter behind /", "r1/a", 3);
        wrong(all, "a second /", "r1//1", 3);
        wrong(all, "a semicolon behind /", "r999/;", 5);
        wrong(all, "a second digit of the turns", "r1/12", 4);
        wrong(all, "a second digit of the turns, behind three digits", "r123/12", 6);
    }

    private static void errorBetween(AllTests all) {
        wrong(all, "it ends behind a semicolon", "t0;", 3);
        wrong(all, "two semicolons", "t0;;t0", 3);
        wrong(all, "a semicolon ahead of all", ";t0", 0);
        wrong(all, "a comma", "t0,t0", 2);
        wrong(all, "no semicolon", "x0x0", 2);
        wrong(all, "a space ahead of all", " t0", 0);
        wrong(all, "a space behind all", "t0 ", 2);
        wrong(all, "a space behind a semicolon", "t0; t0", 3);
        wrong(all, "an error of the second order", "t0;p0m", 5);
        wrong(all, "the second order ends too early", "b33;p8", 6);
        wrong(all, "an error of each order, the first counts", "t0000;p", 4);
        wrong(all, "60 characters, it ends behind a semicolon", "s01;".repeat(15), 60);
        wrong(all, "60 characters, it ends too early", "s01;".repeat(14) + "t0;t", 60);
        wrong(all, "60 characters, the last is wrong", "s01;".repeat(14) + "s011", 59);
        wrong(all, "60 characters, the first is wrong", "q" + ";".repeat(59), 0);
    }

    private static void errorSigns(AllTests all) {
        wrong(all, "a digit that is not of ASCII", "t\u0661", 1);
        wrong(all, "a broad digit", "t\uff11", 1);
        wrong(all, "a digit and 256", "t" + (char) ('1' + 256), 1);
        wrong(all, "a letter and 256", "p0" + (char) ('a' + 256), 2);
        wrong(all, "an order and 256", (char) ('t' + 256) + "0", 0);
        wrong(all, "a semicolon and 256", "t0" + (char) (';' + 256) + "t0", 2);
        wrong(all, "a / and 256", "r0" + (char) ('/' + 256) + "1", 2);
        wrong(all, "character 0 at the start", "\0", 0);
        wrong(all, "character 0 behind an order", "t0\0", 2);
        wrong(all, "character 0 in an order", "t\0", 1);
    }

    private static void positionStays(AllTests all, String name, int due, Edges.Call call) {
        all.add("32 errorPosition: " + name, () -> {
            VowelTorus x = new VowelTorus();
            x.save();
            x.turn(0);
            Check.fails("run", NO_ARGUMENT, () -> Make.run(x, "t0!"));
            Check.is("the error position ahead of it", 2, x.errorPosition());
            call.on(x);
            Check.is("the error position", due, x.errorPosition());
            Check.is("the error position, asked again", due, x.errorPosition());
        });
    }

    private static void errorStays(AllTests all) {
        all.add("32 errorPosition: -1 if run has not been called", () -> {
            VowelTorus x = new VowelTorus();
            Check.is("at first", -1, x.errorPosition());
            Make.type(x, "q");
            Check.is("behind append", -1, x.errorPosition());
        });
        positionStays(all, "stays behind undo", 2, VowelTorus::undo);
        positionStays(all, "stays behind restore", 2, VowelTorus::restore);
        positionStays(all, "stays behind board", 2, x -> x.board(2, 2));
        positionStays(all, "stays behind append", 2, x -> x.append('t'));
        positionStays(all, "stays behind a refused call", 2, x -> Check.answer(() -> x.swap(0, 0)));
        positionStays(all, "stays behind a call that fails", 2, x -> Check.answer(() -> x.turn(12)));
        positionStays(all, "-1 behind a text that is carried out", -1, x -> Make.run(x, "t0"));
        positionStays(all, "-1 behind a text that cannot be", -1, x -> Check.answer(() -> Make.run(x, "t12")));
        positionStays(all, "-1 behind a text that is refused", -1, x -> Check.answer(() -> Make.run(x, "s00")));
        positionStays(all, "another one behind another error", 5, x -> Check.answer(() -> Make.run(x, "t0;t2!")));
        positionStays(all, "0 behind an empty text", 0, x -> Check.answer(x::run));
    }

    // Promise 33.

    private static void refusal(AllTests all) {
        for (boolean isDetail : new boolean[] {false, true}) {
            all.add("33 refusal: nothing was refused, " + (isDetail ? "the detail" : "the reason"), () -> {
                VowelTorus x = new VowelTorus();
                Check.failsAlone("refusal", NONE, x, () -> x.refusal(isDetail));
                x.turn(0);
                Check.failsAlone("refusal behind a turn", NONE, x, () -> x.refusal(isDetail));
            });
            all.add("33 refusal: other exceptions are none, " + (isDetail ? "the detail" : "the reason"), () -> {
                VowelTorus x = new VowelTorus();
                Check.fails("turn", NO_INDEX, () -> x.turn(12));
                Check.fails("put", NO_ARGUMENT, () -> x.put(0, 'm'));
                Check.fails("undo", IllegalStateException.class, x::undo);
                Check.fails("run", NO_ARGUMENT, () -> Make.run(x, "t12"));
                Make.turn(x, 0, 6, 9, 2);
                Check.fails("step", NONE, x::step);
                Check.fails("refusal", NONE, () -> x.refusal(isDetail));
            });
        }
        all.add("33 refusal: details of 0", () -> {
            VowelTorus x = Make.barred(0);
            Check.refuses("turn(1)", 1, 0, x, () -> x.turn(1));
            Check.refuses("put(0, a)", 2, 0, x, () -> x.put(0, 'a'));
            Check.refuses("swap(0, 0)", 3, 0, x, () -> x.swap(0, 0));
        });
        all.add("33 refusal: the highest details", () -> {
            VowelTorus x = Make.barred(5);
            Check.refuses("turn(11)", 1, 5, x, () -> x.turn(11));
            Check.refuses("goal(8, i)", 2, 8, x, () -> x.goal(8, 'i'));
            Check.refuses("swap(8, 8)", 3, 8, x, () -> x.swap(8, 8));
            Check.refuses("step", 5, 9, x, x::step);
            Make.lay(x, 3, 3, "abcdefghi", "lllllllll");
            Check.refuses("step", 4, 9, x, x::step);
        });
        all.add("33 refusal: the latest one, of a text too", () -> {
            VowelTorus x = new VowelTorus();
            Check.refuses("swap(1, 1)", 3, 1, x, () -> x.swap(1, 1));
            Check.fails("run", REFUSED, () -> Make.run(x, "t0;p3d"));
            Check.is("the reason", "2 3", x.refusal(false) + " " + x.refusal(true));
            Check.refuses("swap(2, 2)", 3, 2, x, () -> x.swap(2, 2));
        });
    }

    private static void reasonStays(AllTests all, String name, Edges.Call call) {
        all.add("33 refusal: stays behind " + name, () -> {
            VowelTorus x = new VowelTorus();
            x.save();
            x.turn(0);
            Check.refuses("swap(7, 7)", 3, 7, x, () -> x.swap(7, 7));
            call.on(x);
            Check.is("the reason", 3, x.refusal(false));
            Check.is("the detail", 7, x.refusal(true));
        });
    }

    private static void refusalStays(AllTests all) {
        reasonStays(all, "undo", VowelTorus::undo);
        reasonStays(all, "restore", VowelTorus::restore);
        reasonStays(all, "save", VowelTorus::save);
        reasonStays(all, "a swap that is made", x -> x.swap(0, 7));
        reasonStays(all, "a board", x -> x.board(2, 2));
        reasonStays(all, "a step", VowelTorus::step);
        reasonStays(all, "a text that is carried out", x -> Make.run(x, "s07;t0"));
        reasonStays(all, "a text with an error", x -> Check.answer(() -> Make.run(x, "s00;")));
        reasonStays(all, "a text that cannot be", x -> Check.answer(() -> Make.run(x, "t99;s00")));
        reasonStays(all, "a place that is not there", x -> Check.answer(() -> x.swap(9, 9)));
        reasonStays(all, "questions that have no answer", x -> Check.answer(() -> x.boardOf(7)) + Check.answer(x::undo)
            + Check.answer(x::undo) + Check.answer(x::firstTurn));
    }
}
