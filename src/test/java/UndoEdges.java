/** Promises 38 to 40, case by case: the eighth change and the ninth, no change, no snapshot, and what stays. */
final class UndoEdges {
    private static final Class<IllegalStateException> NO_STATE = IllegalStateException.class;
    private static final String NEW = "abcdefghi abcdefghi ------ 3x3";
    private static final String LETTERS = "abcdefghi";

    /** The calls that are changes; each of them can be made behind turn(0), and all in this order. */
    private static final String[] CHANGES = {"step", "turn", "put", "goal", "swap", "bar", "scramble", "run", "board"};

    private UndoEdges() {
    }

    static void addTo(AllTests all) {
        undoEach(all);
        undoEight(all);
        undoNot(all);
        questions(all);
        undoLeaves(all);
        save(all);
        restore(all);
        restoreEach(all);
        restoreForgets(all);
        restoreLeaves(all);
    }

    private static void change(VowelTorus x, String name) {
        switch (name) {
            case "board" -> x.board(2, 3);
            case "put" -> x.put(0, 'l');
            case "goal" -> x.goal(8, '.');
            case "turn" -> x.turn(1);
            case "swap" -> x.swap(0, 8);
            case "bar" -> x.bar(5);
            case "scramble" -> x.scramble(0, 9);
            case "step" -> x.step();
            default -> Make.run(x, "b22;x0;p0l;g0.;t2;s01;r1/2");
        }
    }

    // Promise 38.

    private static void undoEach(AllTests all) {
        for (String name : CHANGES) {
            all.add("38 undo: of " + name, () -> {
                VowelTorus x = new VowelTorus();
                x.bar(4);
                x.turn(0);
                String before = Look.board(x) + " " + Look.counts(x);
                change(x, name);
                Check.isFalse("it changes nothing", before.equals(Look.board(x) + " " + Look.counts(x)));
                Check.is("what can be undone", 3, x.account(9));
                Check.is("undo", 2, x.undo());
                Check.is("the state", before, Look.board(x) + " " + Look.counts(x));
            });
        }
        all.add("38 undo: of each change, one after the other", () -> {
            VowelTorus x = new VowelTorus();
            x.turn(0);
            String[] states = new String[8];
            for (int i = 0; i < 8; i++) {
                states[i] = Look.board(x) + " " + Look.counts(x);
                change(x, CHANGES[i]);
            }
            for (int i = 7; i >= 0; i--) {
                Check.is("undo", i, x.undo());
                Check.is("the state", states[i], Look.board(x) + " " + Look.counts(x));
            }
        });
    }

    private static void undoEight(AllTests all) {
        all.add("38 undo: none at first", () -> {
            VowelTorus x = new VowelTorus();
            Check.failsAlone("undo", NO_STATE, x, x::undo);
        });
        all.add("38 undo: the one change, and no more", () -> {
            VowelTorus x = new VowelTorus();
            x.turn(0);
            Check.is("undo", 0, x.undo());
            Check.failsAlone("undo", NO_STATE, x, x::undo);
            Check.is("the board", NEW, Look.board(x));
        });
        for (int changes : new int[] {7, 8, 9, 16, 17, 500}) {
            all.add("38 undo: the latest 8 of " + changes + ", and no more", () -> {
                VowelTorus x = new VowelTorus();
                for (int i = 0; i < changes; i++) {
                    x.turn(0);
                }
                int most = Math.min(changes, 8);
                for (int left = most - 1; left >= 0; left--) {
                    Check.is("undo", left, x.undo());
                    Check.is("the turns made", changes - most + left, x.account(2));
                }
                Check.failsAlone("undo", NO_STATE, x, x::undo);
                Check.is("the letters", new String[] {LETTERS, "cabdefghi", "bcadefghi"}[(changes - most) % 3],
                    Look.letters(x));
            });
        }
        all.add("38 undo: a change behind it takes the place of the one that is undone", () -> {
            VowelTorus x = new VowelTorus();
            for (int line = 0; line < 6; line++) {
                x.bar(line);
            }
            x.undo();
            x.undo();
            x.swap(0, 1);
            Check.is("the bars", "####--", Look.bars(x));
            Check.is("undo", 4, x.undo());
            Check.is("the board", "abcdefghi abcdefghi ####-- 3x3", Look.board(x));
            Check.is("undo", 3, x.undo());
            Check.is("the bars", "###---", Look.bars(x));
        });
        all.add("38 undo: 8 undone, 8 made and 8 undone again", () -> {
            VowelTorus x = new VowelTorus();
            for (int round = 0; round < 5; round++) {
                for (int i = 0; i < 8; i++) {
                    x.scramble(i * 100 + round, 3);
                }
                for (int left = 7; left >= 0; left--) {
                    Check.is("undo", left, x.undo());
                }
                Check.is("the state", NEW + " 9 0 0 0 0 0 0 0 0 0", Look.state(x));
            }
        });
    }

    private static void noChange(AllTests all, String name, Edges.Call call) {
        all.add("38 undo: " + name + " is no change", () -> {
            VowelTorus x = Make.barred(0);
            x.turn(2);
            Check.answer(() -> call.on(x));
            Check.is("what can be undone", 2, x.account(9));
            Check.is("undo", 1, x.undo());
            Check.is("the board", "abcdefghi abcdefghi #----- 3x3", Look.board(x));
        });
    }

    private static void undoNot(AllTests all) {
        noChange(all, "a board that cannot be", x -> x.board(1, 1));
        noChange(all, "a letter that cannot be put", x -> x.put(0, 'm'));
        noChange(all, "a refused letter", x -> x.put(0, 'a'));
        noChange(all, "a sign that cannot be", x -> x.goal(9, '.'));
        noChange(all, "a refused sign", x -> x.goal(0, 'a'));
        noChange(all, "a turn that is not there", x -> x.turn(12));
        noChange(all, "a refused turn", x -> x.turn(1));
        noChange(all, "a swap of a place that is not there", x -> x.swap(0, 9));
        noChange(all, "a refused swap", x -> x.swap(5, 5));
        noChange(all, "a bar of a line that is not there", x -> x.bar(6));
        noChange(all, "a scramble that cannot be", x -> x.scramble(0, 10));
        noChange(all, "a text with an error", x -> Make.run(x, "t2;t"));
        noChange(all, "a text that cannot be", x -> Make.run(x, "t2;t12"));
        noChange(all, "a refused text", x -> Make.run(x, "t2;t0"));
        noChange(all, "append", x -> x.append('t'));
        noChange(all, "save", VowelTorus::save);
        noChange(all, "text", VowelTorus::text);
        noChange(all, "goalText", VowelTorus::goalText);
        noChange(all, "lineText", x -> x.lineText(0));
        noChange(all, "away by halves", x -> x.away(false));
        noChange(all, "away by trying all", x -> x.away(true));
        noChange(all, "would", x -> x.would(3));
        noChange(all, "isWell", VowelTorus::isWell);
        noChange(all, "restore without a snapshot", VowelTorus::restore);
    }

    /** A question leaves all as without it, what can be undone and the snapshot too. */
    private static void leavesAll(AllTests all, String name, Edges.Call question) {
        all.add("38 undo: " + name + " is no change, and changes nothing that undo and restore bring back", () -> {
            VowelTorus x = Make.rich();
            Check.answer(() -> question.on(x));
            Check.is("all behind it", Look.toTheEnd(Make.rich()), Look.toTheEnd(x));
        });
    }

    private static void questions(AllTests all) {
        leavesAll(all, "letter", x -> x.letter(8));
        leavesAll(all, "sign", x -> x.sign(8));
        leavesAll(all, "isBarred", x -> x.isBarred(5));
        leavesAll(all, "boardOf", x -> x.boardOf(6));
        leavesAll(all, "away", x -> x.away(false));
        leavesAll(all, "away again", x -> x.away(true));
        leavesAll(all, "firstTurn", VowelTorus::firstTurn);
        leavesAll(all, "isOut", VowelTorus::isOut);
        leavesAll(all, "isOdd", x -> x.isOdd(false));
        leavesAll(all, "isOdd again", x -> x.isOdd(true));
        leavesAll(all, "home", VowelTorus::home);
        leavesAll(all, "would of a turn", x -> x.would(11));
        leavesAll(all, "best", VowelTorus::best);
        leavesAll(all, "where", x -> x.where(8, 11, 98));
        leavesAll(all, "far", x -> x.far(0, 8));
        leavesAll(all, "sings", x -> x.sings(5));
        leavesAll(all, "singing", VowelTorus::singing);
        leavesAll(all, "ranked", x -> x.ranked(5));
        leavesAll(all, "character", x -> x.character(0));
        leavesAll(all, "errorPosition", VowelTorus::errorPosition);
        leavesAll(all, "refusal", x -> x.refusal(true));
        leavesAll(all, "account", x -> x.account(9));
        leavesAll(all, "isWell of a board with bars", VowelTorus::isWell);
        leavesAll(all, "meanFar", VowelTorus::meanFar);
        leavesAll(all, "homeShare", VowelTorus::homeShare);
    }

    private static void undoLeaves(AllTests all) {
        all.add("38 undo: leaves the input, the line, the error position and the reason", () -> {
            VowelTorus x = Make.used(3, 3);
            x.turn(2);
            x.undo();
            x.undo();
            Check.is("the input", 2, x.account(8));
            Check.is("the line", "cak/def/ghi", Look.line(x));
            Check.is("the error position", 2, x.errorPosition());
            Check.is("the reason", "3 1", x.refusal(false) + " " + x.refusal(true));
        });
        all.add("38 undo: leaves the snapshot", () -> {
            VowelTorus x = new VowelTorus();
            x.turn(0);
            x.save();
            x.turn(2);
            x.undo();
            x.undo();
            Check.is("restore", 6, x.restore());
            Check.is("the letters", "cabdefghi", Look.letters(x));
        });
        all.add("38 undo: of a goal that was reached, which it is not any more", () -> {
            VowelTorus x = new VowelTorus();
            Make.turn(x, 0, 1);
            x.undo();
            Check.is("home", 6, x.home());
            Check.is("the goals reached", 0, x.account(7));
            x.turn(1);
            Check.is("the goals reached", 1, x.account(7));
        });
        all.add("38 undo: is no change itself", () -> {
            VowelTorus x = new VowelTorus();
            Make.turn(x, 0, 2);
            Check.is("undo", 1, x.undo());
            Check.is("undo", 0, x.undo());
            Check.failsAlone("undo", NO_STATE, x, x::undo);
            Check.is("the letters", LETTERS, Look.letters(x));
        });
    }

    // Promises 39 and 40.

    private static void save(AllTests all) {
        all.add("39 save: all places are at home", () -> Check.is("save", 9, new VowelTorus().save()));
        all.add("39 save: no place is at home", () ->
            Check.is("save", 0, Make.puzzle(2, 2, "abcd", "llll").save()));
        all.add("39 save: places with . are at home", () ->
            Check.is("save", 6, Make.puzzle(2, 3, "abcdef", "......").save()));
        all.add("39 save: changes nothing that can be seen", () -> {
            VowelTorus x = Make.rich();
            String before = Look.all(x);
            x.save();
            Check.is("all behind it", before, Look.all(x));
        });
        all.add("39 save: leaves what can be undone", () -> {
            VowelTorus x = new VowelTorus();
            x.turn(0);
            x.save();
            Check.is("undo", 0, x.undo());
            Check.is("the letters", LETTERS, Look.letters(x));
        });
        all.add("39 save: in place of an earlier one", () -> {
            VowelTorus x = new VowelTorus();
            x.save();
            x.turn(0);
            x.save();
            x.turn(2);
            Check.is("restore", 6, x.restore());
            Check.is("the letters", "cabdefghi", Look.letters(x));
        });
        all.add("39 save: of a smaller board in place of a larger one", () -> {
            VowelTorus x = Make.barred(5);
            x.save();
            x.board(2, 2);
            Check.is("save", 4, x.save());
            x.board(3, 3);
            Check.is("restore", 4, x.restore());
            Check.is("the board", "abcd abcd ---- 2x2", Look.board(x));
        });
        for (String name : CHANGES) {
            all.add("39 save: " + name + " behind it does not change the snapshot", () -> {
                VowelTorus x = new VowelTorus();
                x.turn(0);
                x.save();
                change(x, name);
                Check.is("restore", 6, x.restore());
                Check.is("the board", "cabdefghi abcdefghi ------ 3x3", Look.board(x));
                Check.is("the counts", "1 0 0 0 0 0", Look.counts(x));
            });
        }
    }

    private static void restore(AllTests all) {
        all.add("40 restore: there is no snapshot", () -> {
            VowelTorus x = Make.used(3, 3);
            Check.failsAlone("restore", NO_STATE, x, x::restore);
        });
        all.add("40 restore: without a snapshot leaves what can be undone", () -> {
            VowelTorus x = new VowelTorus();
            x.turn(0);
            Check.fails("restore", NO_STATE, x::restore);
            Check.is("undo", 0, x.undo());
            Check.is("the letters", LETTERS, Look.letters(x));
        });
        all.add("40 restore: all places are at home then", () -> {
            VowelTorus x = new VowelTorus();
            x.save();
            x.turn(0);
            Check.is("restore", 9, x.restore());
        });
        all.add("40 restore: no place is at home then", () -> {
            VowelTorus x = Make.puzzle(2, 2, "abcd", "llll");
            x.save();
            x.board(3, 3);
            Check.is("restore", 0, x.restore());
        });
        all.add("40 restore: right behind save", () -> {
            VowelTorus x = new VowelTorus();
            x.turn(0);
            x.save();
            Check.is("restore", 6, x.restore());
            Check.is("the state", "cabdefghi abcdefghi ------ 3x3 9 0 1 0 0 0 0 0 0 0", Look.state(x));
        });
        all.add("40 restore: the snapshot stays", () -> {
            VowelTorus x = new VowelTorus();
            x.turn(0);
            x.save();
            for (int i = 0; i < 3; i++) {
                x.board(2, 2);
                x.put(0, 'l');
                Check.is("restore", 6, x.restore());
                Check.is("the board", "cabdefghi abcdefghi ------ 3x3", Look.board(x));
            }
        });
    }

    private static void restoreEach(AllTests all) {
        for (String name : CHANGES) {
            all.add("40 restore: what " + name + " made is in the snapshot", () -> {
                VowelTorus x = new VowelTorus();
                x.turn(0);
                change(x, name);
                String saved = Look.board(x) + " " + Look.counts(x);
                int home = x.save();
                Make.run(x, "b23;x1;p0k;g5.;t0;t1;s05;r7/7");
                x.swap(0, 1);
                Check.is("restore", home, x.restore());
                Check.is("the state", saved, Look.board(x) + " " + Look.counts(x));
            });
        }
    }

    private static void restoreForgets(AllTests all) {
        all.add("40 restore: forgets all that could be undone", () -> {
            VowelTorus x = new VowelTorus();
            Make.turn(x, 0, 2);
            x.save();
            Make.turn(x, 4, 6);
            x.restore();
            Check.is("what can be undone", 0, x.account(9));
            Check.failsAlone("undo", NO_STATE, x, x::undo);
        });
        all.add("40 restore: is no change itself", () -> {
            VowelTorus x = new VowelTorus();
            x.save();
            x.restore();
            Check.is("what can be undone", 0, x.account(9));
        });
        all.add("40 restore: changes behind it can be undone, and no earlier ones", () -> {
            VowelTorus x = new VowelTorus();
            Make.turn(x, 0, 2);
            x.save();
            Make.turn(x, 4, 6);
            x.restore();
            x.turn(8);
            Check.is("undo", 0, x.undo());
            Check.is("the letters", "cabfdeghi", Look.letters(x));
            Check.failsAlone("undo", NO_STATE, x, x::undo);
        });
        all.add("40 restore: the latest 8 changes behind it can be undone", () -> {
            VowelTorus x = new VowelTorus();
            x.save();
            Make.turn(x, 0, 0, 0, 0, 0);
            x.restore();
            for (int i = 0; i < 9; i++) {
                x.turn(0);
            }
            Check.is("what can be undone", 8, x.account(9));
            for (int left = 7; left >= 0; left--) {
                Check.is("undo", left, x.undo());
            }
            Check.is("the letters", "cabdefghi", Look.letters(x));
        });
    }

    private static void restoreLeaves(AllTests all) {
        all.add("40 restore: leaves the input, the line, the error position and the reason", () -> {
            VowelTorus x = new VowelTorus();
            x.save();
            x.text();
            Check.answer(() -> Make.run(x, "t0!"));
            Check.answer(() -> x.swap(1, 1));
            Make.type(x, "t1");
            x.turn(0);
            x.restore();
            Check.is("the input", 2, x.account(8));
            Check.is("the line", "abc/def/ghi", Look.line(x));
            Check.is("the error position", 2, x.errorPosition());
            Check.is("the reason", "3 1", x.refusal(false) + " " + x.refusal(true));
        });
        all.add("40 restore: does not bring back the input, the line, the error position and the reason", () -> {
            VowelTorus x = Make.used(3, 3);
            x.save();
            Check.is("run", 1, x.run());
            x.lineText(1);
            Check.answer(() -> x.put(4, 'e'));
            x.restore();
            Check.is("the input", 0, x.account(8));
            Check.is("the line", "def!", Look.line(x));
            Check.is("the error position", -1, x.errorPosition());
            Check.is("the reason", "2 4", x.refusal(false) + " " + x.refusal(true));
        });
    }
}
