/** Promises 34 to 40: accounts, undo and snapshot. */
final class AccountTests {
    private AccountTests() {
    }

    static void addTo(AllTests all) {
        all.add("34 account", AccountTests::account);
        all.add("34 account: goals reached", AccountTests::goalsReached);
        all.add("34 account: errors", AccountTests::accountErrors);
        all.add("35 isWell", AccountTests::isWell);
        all.add("36 meanFar", AccountTests::meanFar);
        all.add("36 meanFar: none", AccountTests::meanFarNone);
        all.add("37 homeShare", AccountTests::homeShare);
        all.add("38 undo of each change", AccountTests::undoEach);
        all.add("38 undo of the latest 8", AccountTests::undoEight);
        all.add("38 undo of calls that were refused", AccountTests::undoRefused);
        all.add("39 save", AccountTests::save);
        all.add("40 restore", AccountTests::restore);
        all.add("40 restore: none", AccountTests::restoreNone);
    }

    private static void isAccount(VowelTorus x, int... due) {
        for (int what = 0; what < due.length; what++) {
            Check.is("account(" + what + ")", due[what], x.account(what));
        }
    }

    private static void account() {
        VowelTorus x = new VowelTorus();
        isAccount(x, 9, 0, 0, 0, 0, 0, 0, 0, 0, 0);
        x.board(2, 3);
        x.bar(0);
        x.bar(4);
        x.turn(4);
        x.step();
        x.swap(0, 5);
        x.swap(0, 5);
        x.scramble(1, 9);
        x.append('q');
        // The scramble's turns 114 % 10, 363 % 10, 540 % 10, ... : those of lines 0 and 4 are left out.
        int seed = 1;
        int made = 0;
        for (int i = 0; i < 9; i++) {
            seed = (73 * seed + 41) % 1000;
            int line = seed % 10 / 2;
            made += line == 0 || line == 4 ? 0 : 1;
        }
        isAccount(x, 6, 2, 2 + made, 2, 1, 1, 1, 1, 1, 8);
        x.undo();
        isAccount(x, 6, 2, 2, 2, 0, 1, 1, 1, 1, 7);
        x.board(2, 2);
        isAccount(x, 4, 0, 2, 2, 0, 1, 2, 1, 1, 8);
    }

    private static void goalsReached() {
        VowelTorus x = new VowelTorus();
        x.turn(0);
        Check.is("goals reached by leaving", 0, x.account(7));
        x.turn(1);
        Check.is("goals reached by a turn", 1, x.account(7));
        x.turn(2);
        x.step();
        Check.is("goals reached by a step", 2, x.account(7));
        x.turn(0);
        Make.run(x, "t1");
        Check.is("goals reached by a turn of a text", 3, x.account(7));
        x.swap(0, 1);
        x.swap(0, 1);
        Check.is("goals reached by a swap", 3, x.account(7));
        x.put(0, 'l');
        x.put(0, 'a');
        x.goal(0, 'l');
        x.goal(0, 'a');
        x.board(3, 3);
        Check.is("goals reached by put, goal and board", 3, x.account(7));
        Make.lay(x, 3, 3, "aaabcdefg", "aaa......");
        x.turn(0);
        Check.is("a goal that was reached ahead of it", 3, x.account(7));
        x.turn(6);
        x.undo();
        Check.is("goals reached by undo", 3, x.account(7));
        x.turn(6);
        x.turn(7);
        Check.is("goals reached by one more turn", 4, x.account(7));
        x.undo();
        Check.is("goals reached are undone", 3, x.account(7));
    }

    private static void accountErrors() {
        VowelTorus x = Make.barred(0);
        for (int what : new int[] {-1, 10, 11, Integer.MAX_VALUE, Integer.MIN_VALUE}) {
            Check.failsAlone("account(" + what + ")", IllegalArgumentException.class, x, () -> x.account(what));
        }
    }

    private static void isWell() {
        VowelTorus x = new VowelTorus();
        Check.isTrue("a new object is well", x.isWell());
        Make.turn(x, 0, 6, 9);
        Check.isTrue("3 turns away is well", x.isWell());
        x.turn(2);
        Check.isTrue("too far is well", x.isWell());
        x.swap(0, 1);
        Check.isTrue("an odd goal is well", x.isWell());
        x.goal(0, '.');
        Check.isTrue("an odd goal with a dot is well", x.isWell());
        Make.lay(x, 2, 3, "aabbll", "llbbaa");
        Check.isTrue("letters alike are well", x.isWell());
        Make.lay(x, 2, 2, "bacd", "abcd");
        Check.isTrue("an odd goal of 2 by 2 is well", x.isWell());
        for (int line = 0; line < 4; line++) {
            x.bar(line);
        }
        String before = Look.all(x);
        Check.isTrue("all barred is well", x.isWell());
        Check.is("all behind isWell", before, Look.all(x));
    }

    private static void meanFar() {
        VowelTorus x = new VowelTorus();
        Check.is("at home", 0.0, x.meanFar());
        x.turn(0);
        Check.is("behind a turn", 3.0 / 9.0, x.meanFar());
        x.swap(4, 8);
        Check.is("behind a swap", 7.0 / 9.0, x.meanFar());
        x.goal(3, '.');
        Check.is("with a dot", 7.0 / 8.0, x.meanFar());
        // A letter that is at several places of the goal counts at each.
        Make.lay(x, 2, 2, "abcd", "aaaa");
        Check.is("a letter at all places", 1.0, x.meanFar());
        // A letter that is twice on the board, or not, does not count.
        Make.lay(x, 2, 3, "aabcde", "lbaaac");
        Check.is("letters that are once on the board", 1.0, x.meanFar());
        x.goal(0, 'e');
        Check.is("one more of them", 4.0 / 3.0, x.meanFar());
        Make.lay(x, 3, 2, "abcdef", "f.....");
        Check.is("one place alone", 2.0, x.meanFar());
    }

    private static void meanFarNone() {
        VowelTorus x = Make.puzzle(2, 2, "abcd", "....");
        Check.failsAlone("meanFar of dots", ArithmeticException.class, x, x::meanFar);
        Make.lay(x, 2, 2, "aabb", "abab");
        Check.failsAlone("meanFar of letters alike", ArithmeticException.class, x, x::meanFar);
        Make.lay(x, 2, 2, "abcd", "eell");
        Check.failsAlone("meanFar of other letters", ArithmeticException.class, x, x::meanFar);
    }

    private static void homeShare() {
        VowelTorus x = new VowelTorus();
        Check.is("homeShare", 1.0f, x.homeShare());
        x.turn(0);
        Check.is("homeShare behind a turn", 6f / 9f, x.homeShare());
        x.swap(3, 4);
        Check.is("homeShare behind a swap", 4f / 9f, x.homeShare());
        x.goal(3, '.');
        Check.is("homeShare with a dot", 5f / 9f, x.homeShare());
        Make.lay(x, 2, 3, "aaaaaa", "llllll");
        Check.is("homeShare of none", 0f, x.homeShare());
        x.goal(5, 'a');
        Check.is("homeShare of 2 by 3", 1f / 6f, x.homeShare());
        Make.lay(x, 2, 2, "abcd", "abdc");
        Check.is("homeShare of 2 by 2", 0.5f, x.homeShare());
    }

    private static void isUndone(String what, VowelTorus x, Check.Call change) {
        String before = Look.board(x) + Look.counts(x);
        int could = x.account(9);
        change.make();
        Check.is("what can be undone behind " + what, could + 1, x.account(9));
        Check.is("undo of " + what, could, x.undo());
        Check.is("the board behind undo of " + what, before, Look.board(x) + Look.counts(x));
    }

    private static void undoEach() {
        VowelTorus x = new VowelTorus();
        Check.failsAlone("undo at first", IllegalStateException.class, x, x::undo);
        x.bar(5);
        x.turn(0);
        isUndone("board", x, () -> x.board(2, 3));
        isUndone("put", x, () -> x.put(0, 'l'));
        isUndone("goal", x, () -> x.goal(8, '.'));
        isUndone("turn", x, () -> x.turn(3));
        isUndone("a turn to the goal", x, () -> x.turn(1));
        isUndone("swap", x, () -> x.swap(3, 4));
        isUndone("bar", x, () -> x.bar(2));
        isUndone("bar again", x, () -> x.bar(5));
        isUndone("scramble", x, () -> x.scramble(7, 9));
        isUndone("step", x, x::step);
        isUndone("run", x, () -> Make.run(x, "b22;x0;p0l;g0.;t2;s01;r1/2"));
        Check.is("undo", 1, x.undo());
        Check.is("undo", 0, x.undo());
        Check.failsAlone("undo of nothing", IllegalStateException.class, x, x::undo);
        Check.is("the state", "abcdefghi abcdefghi ------ 3x3 9 0 0 0 0 0 0 0 0 0", Look.state(x));
    }

    private static void undoEight() {
        VowelTorus x = new VowelTorus();
        for (int i = 1; i <= 20; i++) {
            x.turn(0);
            Check.is("what can be undone", Math.min(i, 8), x.account(9));
        }
        for (int left = 7; left >= 0; left--) {
            Check.is("undo", left, x.undo());
            Check.is("the turns made", 12 + left, x.account(2));
        }
        Check.failsAlone("undo of the ninth", IllegalStateException.class, x, x::undo);
        Check.is("the letters", "abcdefghi", Look.letters(x));
        x.bar(1);
        x.bar(2);
        Check.is("undo", 1, x.undo());
        x.bar(3);
        Check.is("the bars", "-#-#--", Look.bars(x));
        Check.is("undo", 1, x.undo());
        Check.is("the bars", "-#----", Look.bars(x));
        Check.is("undo", 0, x.undo());
        Check.is("the bars", "------", Look.bars(x));
    }

    private static void undoRefused() {
        VowelTorus x = new VowelTorus();
        x.bar(0);
        Check.answer(() -> x.turn(0));
        Check.answer(() -> x.turn(12));
        Check.answer(() -> x.put(1, 'b'));
        Check.answer(() -> x.goal(1, 'b'));
        Check.answer(() -> x.swap(1, 1));
        Check.answer(x::step);
        Check.answer(() -> x.board(1, 1));
        Check.answer(() -> Make.run(x, "t2;t0"));
        x.save();
        x.text();
        x.isWell();
        Check.is("what can be undone", 1, x.account(9));
        Check.is("undo", 0, x.undo());
        Check.is("the state", "abcdefghi abcdefghi ------ 3x3 9 0 0 0 0 0 0 0 0 0", Look.state(x));
    }

    private static void save() {
        VowelTorus x = new VowelTorus();
        Check.is("save", 9, x.save());
        x.turn(0);
        Check.is("what can be undone", 1, x.account(9));
        Check.is("save in place of it", 6, x.save());
        Check.is("what can be undone behind save", 1, x.account(9));
        x.board(2, 2);
        Check.is("restore", 6, x.restore());
        Check.is("the letters", "cabdefghi", Look.letters(x));
        x.board(2, 2);
        Check.is("save of 2 by 2", 4, x.save());
    }

    private static void restore() {
        VowelTorus x = new VowelTorus();
        x.goal(8, '.');
        x.bar(3);
        x.turn(0);
        x.step();
        x.swap(0, 1);
        x.scramble(3, 1);
        x.save();
        String before = Look.board(x) + Look.counts(x);
        int home = x.home();
        Make.run(x, "b22;t0;t0;x1;r9/9;s01");
        x.append('q');
        for (int i = 0; i < 2; i++) {
            Check.is("restore", home, x.restore());
            Check.is("the board behind it", before, Look.board(x) + Look.counts(x));
            Check.is("what can be undone", 0, x.account(9));
            Check.is("the input", 1, x.account(8));
            Check.failsAlone("undo behind restore", IllegalStateException.class, x, x::undo);
            x.board(2, 3);
            x.turn(0);
        }
        // Changes behind it can be undone again, and undo leaves the snapshot.
        Check.is("undo", 1, x.undo());
        Check.is("undo", 0, x.undo());
        x.turn(2);
        Check.is("restore", home, x.restore());
        Check.is("the board behind it", before, Look.board(x) + Look.counts(x));
    }

    private static void restoreNone() {
        VowelTorus x = Make.barred(2);
        x.turn(0);
        Check.failsAlone("restore", IllegalStateException.class, x, x::restore);
        Check.is("undo", 1, x.undo());
    }
}
