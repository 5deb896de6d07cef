import java.util.NoSuchElementException;

/** Promises 26 to 33: lines of text, texts and reasons. */
final class TextTests {
    private static final Class<IndexOutOfBoundsException> NO_INDEX = IndexOutOfBoundsException.class;
    private static final Class<IllegalArgumentException> NO_ARGUMENT = IllegalArgumentException.class;
    private static final Class<UnsupportedOperationException> REFUSED = UnsupportedOperationException.class;

    private TextTests() {
    }

    static void addTo(AllTests all) {
        all.add("26 text", TextTests::text);
        all.add("27 goalText", TextTests::goalText);
        all.add("28 lineText", TextTests::lineText);
        all.add("29 character", TextTests::character);
        all.add("30 append", TextTests::append);
        all.add("31 run, each order", TextTests::runEach);
        all.add("31 run, several orders", TextTests::runSeveral);
        all.add("31 run, all or nothing", TextTests::runNothing);
        all.add("31 run: errors of orders", TextTests::runOrderErrors);
        all.add("31 run: reasons", TextTests::runReasons);
        all.add("31 run: the first decides", TextTests::runFirst);
        all.add("31 run: the input is empty afterwards", TextTests::runEmpties);
        all.add("32 errorPosition", TextTests::errorPosition);
        all.add("32 errorPosition stays", TextTests::errorPositionStays);
        all.add("33 refusal", TextTests::refusal);
        all.add("33 refusal stays", TextTests::refusalStays);
    }

    private static void text() {
        VowelTorus x = new VowelTorus();
        Check.is("text()", 11, x.text());
        Check.is("the line", "abc/def/ghi", Look.line(x));
        Make.lay(x, 2, 3, "lkabcd", "......");
        Check.is("the line stays", "abc/def/ghi", Look.line(x));
        Check.is("text() of 2 by 3", 7, x.text());
        Check.is("the line", "lka/bcd", Look.line(x));
        x.board(3, 2);
        Check.is("text() of 3 by 2", 8, x.text());
        Check.is("the line", "ab/cd/ef", Look.line(x));
        x.board(2, 2);
        Check.is("text() of 2 by 2", 5, x.text());
        Check.is("the line", "ab/cd", Look.line(x));
    }

    private static void goalText() {
        VowelTorus x = new VowelTorus();
        x.turn(0);
        x.goal(3, '.');
        x.goal(8, 'l');
        Check.is("goalText()", 11, x.goalText());
        Check.is("the line", "abc/.ef/ghl", Look.line(x));
        Make.lay(x, 3, 2, "abcdef", "......");
        Check.is("goalText() of 3 by 2", 8, x.goalText());
        Check.is("the line", "../../..", Look.line(x));
    }

    private static void isLine(int line, String due, VowelTorus x) {
        Check.is("lineText(" + line + ")", due.length(), x.lineText(line));
        Check.is("the line", due, Look.line(x));
    }

    private static void lineText() {
        VowelTorus x = Make.puzzle(2, 3, "baeklj", "......");
        x.bar(0);
        x.bar(3);
        isLine(0, "#bae", x);
        isLine(1, "klj", x);
        isLine(2, "bk", x);
        isLine(3, "#al!", x);
        isLine(4, "ej!", x);
        x.board(3, 2);
        isLine(0, "ab!", x);
        isLine(2, "ef!", x);
        isLine(3, "ace", x);
        x.bar(4);
        isLine(4, "#bdf", x);
        x.board(3, 3);
        x.bar(2);
        isLine(2, "#ghi!", x);
        isLine(5, "cfi!", x);
        for (int line : new int[] {-1, 6, Integer.MAX_VALUE, Integer.MIN_VALUE}) {
            Check.failsAlone("lineText(" + line + ")", NO_INDEX, x, () -> x.lineText(line));
        }
        x.board(2, 2);
        Check.failsAlone("lineText(4) of 2 by 2", NO_INDEX, x, () -> x.lineText(4));
    }

    private static void character() {
        VowelTorus x = new VowelTorus();
        Check.failsAlone("character(0) at first", NO_INDEX, x, () -> x.character(0));
        x.text();
        Check.is("character(0)", 'a', x.character(0));
        Check.is("character(3)", '/', x.character(3));
        Check.is("character(10)", 'i', x.character(10));
        for (int index : new int[] {-1, 11, 12, Integer.MAX_VALUE, Integer.MIN_VALUE}) {
            Check.failsAlone("character(" + index + ")", NO_INDEX, x, () -> x.character(index));
        }
        x.lineText(0);
        Check.is("character(3)", '!', x.character(3));
        Check.failsAlone("character(4) of a shorter line", NO_INDEX, x, () -> x.character(4));
        x.turn(0);
        x.undo();
        Check.is("the line is not undone", "abc!", Look.line(x));
        x.save();
        x.text();
        x.restore();
        Check.is("the line is not saved", "abc/def/ghi", Look.line(x));
    }

    private static void append() {
        VowelTorus x = new VowelTorus();
        for (int i = 1; i <= 60; i++) {
            Check.is("append", i, x.append((char) (i * 1000)));
            Check.is("the characters in the input", i, x.account(8));
        }
        Check.failsAlone("append to 60", IllegalStateException.class, x, () -> x.append('a'));
        Check.fails("run", NO_ARGUMENT, x::run);
        Check.is("append behind run", 1, x.append('t'));
        x.turn(0);
        Check.is("append behind turn", 2, x.append('1'));
        x.undo();
        x.save();
        Check.is("append behind undo and save", 3, x.append('1'));
        x.restore();
        Check.is("run", 1, x.run());
        Check.is("the letters", "abfdeighc", Look.letters(x));
    }

    private static void isRun(String text, int orders, String due) {
        VowelTorus x = new VowelTorus();
        Check.is("run of " + text, orders, Make.run(x, text));
        Check.is("the state behind " + text, due, Look.state(x));
        Check.is("the error position", -1, x.errorPosition());
        Check.is("undo of " + text, 0, x.undo());
        Check.is("the state behind undo", "abcdefghi abcdefghi ------ 3x3 9 0 0 0 0 0 0 0 0 0", Look.state(x));
    }

    private static void runEach() {
        isRun("b23", 1, "abcdef abcdef ----- 2x3 6 0 0 0 0 0 1 0 0 1");
        isRun("p0l", 1, "lbcdefghi abcdefghi ------ 3x3 9 0 0 0 0 0 0 0 0 1");
        isRun("p8a", 1, "abcdefgha abcdefghi ------ 3x3 9 0 0 0 0 0 0 0 0 1");
        isRun("g0.", 1, "abcdefghi .bcdefghi ------ 3x3 9 0 0 0 0 0 0 0 0 1");
        isRun("g8l", 1, "abcdefghi abcdefghl ------ 3x3 9 0 0 0 0 0 0 0 0 1");
        isRun("t0", 1, "cabdefghi abcdefghi ------ 3x3 9 0 1 0 0 0 0 0 0 1");
        isRun("t11", 1, "abfdeighc abcdefghi ------ 3x3 9 0 1 0 0 0 0 0 0 1");
        isRun("t007", 1, "dbcgefahi abcdefghi ------ 3x3 9 0 1 0 0 0 0 0 0 1");
        isRun("t10", 1, "abidecghf abcdefghi ------ 3x3 9 0 1 0 0 0 0 0 0 1");
        isRun("s08", 1, "ibcdefgha abcdefghi ------ 3x3 9 0 0 1 0 0 0 0 0 1");
        isRun("x5", 1, "abcdefghi abcdefghi -----# 3x3 9 1 0 0 0 0 0 0 0 1");
        isRun("r0/1", 1, "abcdefhig abcdefghi ------ 3x3 9 0 1 0 1 0 0 0 0 1");
        isRun("r968/1", 1, Look.state(scrambled(968, 1)));
        isRun("r100/2", 1, Look.state(scrambled(100, 2)));
        isRun("r509/4", 1, Look.state(scrambled(509, 4)));
        isRun("r12/9", 1, Look.state(scrambled(12, 9)));
    }

    private static VowelTorus scrambled(int seed, int turns) {
        VowelTorus x = new VowelTorus();
        x.scramble(seed, turns);
        return x;
    }

    private static void runSeveral() {
        isRun("t0;t1;t0;t1", 4, "abcdefghi abcdefghi ------ 3x3 9 0 4 0 0 0 0 2 0 1");
        isRun("b22;x0;p3l;g3l;s12;t2", 6, "aclb abcl #--- 2x2 4 1 1 1 0 0 1 0 0 1");
        VowelTorus x = new VowelTorus();
        Check.is("20 orders", 20, Make.run(x, "x0;x0;x0;x0;x0;x0;x0;x0;x0;x0;x0;x0;x0;x0;x0;x0;x0;x0;x0;x1"));
        Check.is("the bars", "##----", Look.bars(x));
        Check.is("what can be undone", 1, x.account(9));
        VowelTorus y = new VowelTorus();
        Check.is("a text of 60 characters", 15, Make.run(y, "s01;".repeat(14) + "t000"));
        Check.is("the letters", "cabdefghi", Look.letters(y));
    }

    private static void runNothing() {
        VowelTorus x = Make.barred(5);
        x.turn(0);
        String before = Look.state(x);
        String[] wrong = {"t2;t12", "b22;t8", "b22;b14", "s01;p9a", "g0.;g9a", "x0;x6", "r5/3;r5/0", "t2;s09",
            "t2;s90"};
        for (String text : wrong) {
            Check.fails("run of " + text, NO_ARGUMENT, () -> Make.run(x, text));
            Check.is("the state behind " + text, before, Look.state(x));
            Check.is("the error position", -1, x.errorPosition());
        }
        Check.fails("nothing was refused", NoSuchElementException.class, () -> x.refusal(false));
        String[] refused = {"t2;t11", "b22;x0;t1", "p0l;p0l", "g0.;g0.", "s01;s11", "x0;r5/9;t1"};
        for (String text : refused) {
            Check.fails("run of " + text, REFUSED, () -> Make.run(x, text));
            Check.is("the state behind " + text, before, Look.state(x));
            Check.is("the error position", -1, x.errorPosition());
        }
        Check.is("undo behind all of it", 1, x.undo());
        Check.is("the letters", "abcdefghi", Look.letters(x));
    }

    private static void runOrderErrors() {
        String[] wrong = {"b11", "b32;b41", "b14", "b00", "b99", "p9a", "g9.", "g9l", "t12", "t999", "t012", "s99",
            "s09", "s90", "x6", "x9", "r0/0", "r999/0"};
        for (String text : wrong) {
            VowelTorus x = new VowelTorus();
            Check.failsAlone("run of " + text, NO_ARGUMENT, x, () -> Make.run(x, text));
            Check.is("the error position", -1, x.errorPosition());
        }
    }

    private static void isRefused(String text, int reason, int detail) {
        VowelTorus x = Make.barred(4);
        Make.type(x, text);
        Check.fails("run of " + text, REFUSED, x::run);
        Check.is("the reason", reason, x.refusal(false));
        Check.is("the detail", detail, x.refusal(true));
        Check.is("the state", "abcdefghi abcdefghi ----#- 3x3 9 1 0 0 0 0 0 0 0 1", Look.state(x));
        Check.is("the error position", -1, x.errorPosition());
    }

    private static void runReasons() {
        isRefused("t8", 1, 4);
        isRefused("t9", 1, 4);
        isRefused("x0;t1", 1, 0);
        isRefused("p0a", 2, 0);
        isRefused("p5l;p5l", 2, 5);
        isRefused("g8i", 2, 8);
        isRefused("g8.;g8.", 2, 8);
        isRefused("s00", 3, 0);
        isRefused("s77", 3, 7);
        // Each order is judged behind those ahead of it.
        isRefused("b22;x2;t5", 1, 2);
        isRefused("s01;p0b", 2, 0);
    }

    private static void runFirst() {
        isRefused("t8;b11", 1, 4);
        isRefused("s33;t99", 3, 3);
        isRefused("p0a;s11", 2, 0);
        VowelTorus x = Make.barred(4);
        Check.failsAlone("run", NO_ARGUMENT, x, () -> Make.run(x, "b11;t8"));
        Check.fails("run", NO_ARGUMENT, () -> Make.run(x, "t8;t"));
        Check.is("an error of the text comes first", 4, x.errorPosition());
        Check.fails("and nothing is refused", NoSuchElementException.class, () -> x.refusal(false));
    }

    private static void runEmpties() {
        VowelTorus x = Make.barred(4);
        Make.run(x, "t0");
        Check.is("the input", 0, x.account(8));
        for (String text : new String[] {"t", "t99", "t8"}) {
            Make.type(x, text);
            Check.is("the input", text.length(), x.account(8));
            Check.answer(x::run);
            Check.is("the input behind run", 0, x.account(8));
        }
        Check.fails("run of nothing", NO_ARGUMENT, x::run);
        Check.is("the error position", 0, x.errorPosition());
    }

    private static void isWrong(String text, int due) {
        VowelTorus x = new VowelTorus();
        Make.type(x, text);
        Check.fails("run of " + text, NO_ARGUMENT, x::run);
        Check.is("the error position of " + text, due, x.errorPosition());
        Check.is("the state", "abcdefghi abcdefghi ------ 3x3 9 0 0 0 0 0 0 0 0 0", Look.state(x));
    }

    private static void errorPosition() {
        Check.is("at first", -1, new VowelTorus().errorPosition());
        String[] texts = {"", "0", ";", "a", "B", " ", "b", "ba", "b3", "b3;", "b333", "b33 ", "b33;", "b33;;", "p",
            "pa", "p0", "p0.", "p0m", "p0A", "p0aa", "g", "g.", "g0", "g0m", "g0/", "g0..", "t", "ta", "t;", "t1234",
            "t12a", "t-1", "s", "s1", "s1;", "s123", "x", "xx", "x12", "x;", "r", "r/", "r1", "r1;", "r1234", "r1/",
            "r1/a", "r1/12", "r123/", "t1;t1;t1;q", "t1;t1;t1,", "t0;b3", "\u0662", "t\u0662", "t1\u066b", "\uff42",
            "p0\u0161", "t1\u0000"};
        int[] due = {0, 0, 0, 0, 0, 0, 1, 1, 2, 2, 3, 3, 4, 4, 1,
            1, 2, 2, 2, 2, 3, 1, 1, 2, 2, 2, 3, 1, 1, 1, 4,
            3, 1, 1, 2, 2, 3, 1, 1, 2, 1, 1, 1, 2, 2, 4, 3,
            3, 4, 5, 9, 8, 5, 0, 1, 2, 0,
            2, 2};
        for (int i = 0; i < texts.length; i++) {
            isWrong(texts[i], due[i]);
        }
        isWrong("s01;".repeat(15), 60);
        isWrong("s01;".repeat(14) + "s011", 59);
    }

    private static void errorPositionStays() {
        VowelTorus x = new VowelTorus();
        Check.fails("run", NO_ARGUMENT, () -> Make.run(x, "t1x"));
        Check.is("errorPosition", 2, x.errorPosition());
        x.save();
        x.turn(0);
        x.undo();
        x.restore();
        x.board(2, 2);
        x.append('t');
        Check.is("errorPosition stays", 2, x.errorPosition());
        x.append('0');
        x.run();
        Check.is("errorPosition behind a text without error", -1, x.errorPosition());
        Check.fails("run", NO_ARGUMENT, () -> Make.run(x, "t1x"));
        Check.fails("run", NO_ARGUMENT, () -> Make.run(x, "t99"));
        Check.is("errorPosition behind a text that cannot be", -1, x.errorPosition());
        Check.fails("run", NO_ARGUMENT, () -> Make.run(x, "t1x"));
        Check.fails("run", REFUSED, () -> Make.run(x, "s11"));
        Check.is("errorPosition behind a text that is refused", -1, x.errorPosition());
    }

    private static void refusal() {
        VowelTorus x = Make.barred(3);
        Check.failsAlone("refusal(true)", NoSuchElementException.class, x, () -> x.refusal(true));
        Check.failsAlone("refusal(false)", NoSuchElementException.class, x, () -> x.refusal(false));
        Check.refuses("turn(6)", 1, 3, x, () -> x.turn(6));
        Check.refuses("put(7, h)", 2, 7, x, () -> x.put(7, 'h'));
        Check.refuses("goal(0, a)", 2, 0, x, () -> x.goal(0, 'a'));
        Check.refuses("swap(0, 0)", 3, 0, x, () -> x.swap(0, 0));
        Check.refuses("step at the goal", 5, 9, x, x::step);
        x.swap(0, 1);
        Check.refuses("step out of reach", 4, 2, x, x::step);
        Check.refuses("turn(7)", 1, 3, x, () -> x.turn(7));
    }

    private static void refusalStays() {
        VowelTorus x = Make.barred(3);
        x.save();
        Check.refuses("turn(6)", 1, 3, x, () -> x.turn(6));
        x.turn(0);
        x.undo();
        x.undo();
        x.restore();
        x.board(2, 2);
        Check.answer(() -> x.turn(99));
        Check.answer(() -> x.put(0, 'z'));
        Check.answer(() -> Make.run(x, "t99"));
        Check.answer(() -> Make.run(x, "t0;"));
        Check.is("the reason", 1, x.refusal(false));
        Check.is("the detail", 3, x.refusal(true));
    }
}
