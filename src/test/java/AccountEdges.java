import java.util.function.Supplier;

/** Promises 34 to 37, case by case: what counts and what does not, and none, one and all. */
final class AccountEdges {
    private static final Class<IllegalArgumentException> NO_ARGUMENT = IllegalArgumentException.class;
    private static final Class<ArithmeticException> NO_MEAN = ArithmeticException.class;
    private static final String LETTERS = "abcdefghi";
    private static final String DOTS = ".........";

    private AccountEdges() {
    }

    static void addTo(AllTests all) {
        accountFirst(all);
        accountTurns(all);
        accountOthers(all);
        accountReached(all);
        accountReachedNot(all);
        well(all);
        meanFar(all);
        meanFarNone(all);
        homeShare(all);
    }

    // Promise 34.

    private static void counts(AllTests all, String name, int what, int due, Supplier<VowelTorus> make) {
        all.add("34 account: " + name, () -> {
            VowelTorus x = make.get();
            String before = Look.all(x);
            Check.is("account(" + what + ")", due, x.account(what));
            Check.is("all behind it", before, Look.all(x));
        });
    }

    /** A new puzzle behind these calls, of which some may fail. */
    private static Supplier<VowelTorus> behind(Edges.Call... calls) {
        return () -> {
            VowelTorus x = new VowelTorus();
            for (Edges.Call call : calls) {
                Check.answer(() -> call.on(x));
            }
            return x;
        };
    }

    private static void accountFirst(AllTests all) {
        new Edges(all, "34 account", NO_ARGUMENT).numbers("account", 0, 9, (x, what) -> x.account(what));
        for (int what = 0; what <= 9; what++) {
            counts(all, "number " + what + " of a new object", what, what == 0 ? 9 : 0, VowelTorus::new);
        }
        for (int[] size : Edges.SIZES) {
            String of = " of " + size[0] + " by " + size[1];
            counts(all, "the places" + of, 0, size[0] * size[1], () -> Make.sized(size[0], size[1]));
            counts(all, "no lines barred" + of, 1, 0, () -> Make.sized(size[0], size[1]));
            counts(all, "all lines barred" + of, 1, size[0] + size[1], () -> Make.allBarred(size[0], size[1]));
        }
        counts(all, "a line barred and not any more", 1, 0, () -> Make.barred(5, 5));
        counts(all, "lines barred on the board before", 1, 0, behind(x -> x.bar(0), x -> x.board(3, 3)));
        counts(all, "the characters of an input that is full", 8, 60, behind(x -> {
            Make.type(x, "q".repeat(60));
            return x.append('q');
        }));
    }

    private static void accountTurns(AllTests all) {
        counts(all, "turns made", 2, 2, behind(x -> x.turn(0), x -> x.turn(0)));
        counts(all, "turns of steps", 2, 2, behind(x -> x.turn(0), VowelTorus::step));
        counts(all, "turns of scrambles", 2, 9, behind(x -> x.scramble(0, 9)));
        counts(all, "turns of scrambles, not those of barred lines", 2, 2,
            behind(x -> x.bar(2), x -> x.scramble(0, 3)));
        counts(all, "turns of texts", 2, 4, behind(x -> Make.run(x, "t0;t0;r0/2")));
        counts(all, "no turns of texts that fail", 2, 0, behind(x -> Make.run(x, "t0;t0;t12")));
        counts(all, "no turns that are refused", 2, 0, behind(x -> x.bar(0), x -> x.turn(0), x -> x.turn(12)));
        counts(all, "no turns that are told and not made", 2, 0,
            behind(x -> x.would(0), VowelTorus::best, x -> x.where(0, 0, 9), x -> x.away(true), VowelTorus::isWell));
        counts(all, "turns that are undone do not count", 2, 1,
            behind(x -> x.turn(0), x -> x.turn(0), VowelTorus::undo));
        counts(all, "turns ahead of a new board", 2, 1, behind(x -> x.turn(0), x -> x.board(2, 2)));
        counts(all, "511 calls of a scramble with the most turns", 2, 511 * 9, () -> {
            VowelTorus x = new VowelTorus();
            for (int i = 0; i < 511; i++) {
                x.scramble(i, 9);
            }
            return x;
        });
    }

    private static void accountOthers(AllTests all) {
        counts(all, "swaps", 3, 2, behind(x -> x.swap(0, 1), x -> x.swap(0, 1)));
        counts(all, "swaps of texts", 3, 2, behind(x -> Make.run(x, "s01;s87")));
        counts(all, "no swaps that are refused", 3, 0, behind(x -> x.swap(1, 1), x -> x.swap(0, 9)));
        counts(all, "scrambles, not their turns", 4, 1, behind(x -> x.scramble(0, 9)));
        counts(all, "scrambles that make no turn", 4, 1, () -> {
            VowelTorus x = Make.barred(2);
            x.scramble(0, 1);
            return x;
        });
        counts(all, "scrambles of texts", 4, 2, behind(x -> Make.run(x, "r0/1;r0/9")));
        counts(all, "no scrambles that cannot be", 4, 0, behind(x -> x.scramble(0, 0), x -> x.scramble(1000, 1)));
        counts(all, "steps", 5, 1, behind(x -> x.turn(0), VowelTorus::step));
        counts(all, "no steps that are refused", 5, 0, behind(VowelTorus::step));
        counts(all, "no steps from too far", 5, 0, behind(x -> Make.run(x, "t0;t6;t9;t2"), VowelTorus::step));
        counts(all, "no steps by a turn that a step would make", 5, 0, behind(x -> x.turn(0), x -> x.turn(1)));
        counts(all, "boards", 6, 2, behind(x -> x.board(2, 2), x -> x.board(2, 2)));
        counts(all, "boards of texts", 6, 2, behind(x -> Make.run(x, "b22;b33")));
        counts(all, "no boards that cannot be", 6, 0, behind(x -> x.board(1, 2), x -> Make.run(x, "b22;b14")));
        counts(all, "boards that are undone do not count", 6, 0, behind(x -> x.board(2, 2), VowelTorus::undo));
        counts(all, "characters of an input that run has emptied", 8, 0, behind(x -> Make.run(x, "t0")));
        counts(all, "changes, the most", 9, 8, behind(x -> x.bar(0), x -> x.bar(0), x -> x.bar(0), x -> x.bar(0),
            x -> x.bar(0), x -> x.bar(0), x -> x.bar(0), x -> x.bar(0), x -> x.bar(0)));
    }

    private static void accountReached(AllTests all) {
        counts(all, "the goal reached by a turn", 7, 1, behind(x -> x.turn(0), x -> x.turn(1)));
        counts(all, "the goal reached by a step", 7, 1, behind(x -> x.turn(0), VowelTorus::step));
        counts(all, "the goal reached by a turn of a text", 7, 1, behind(x -> Make.run(x, "t0;t1")));
        counts(all, "the goal reached twice", 7, 2,
            behind(x -> x.turn(0), x -> x.turn(1), x -> x.turn(2), x -> x.turn(3)));
        counts(all, "a goal with . reached", 7, 1,
            behind(x -> x.goal(3, '.'), x -> x.goal(4, '.'), x -> x.turn(0), x -> x.swap(3, 4), x -> x.turn(1)));
        counts(all, "the goal left by a swap and reached by a turn", 7, 1,
            behind(x -> Make.run(x, "b22;s01"), x -> x.turn(0)));
        counts(all, "the goal told anew and reached by a turn", 7, 1,
            behind(x -> x.goal(0, 'c'), x -> x.goal(1, 'a'), x -> x.goal(2, 'b'), x -> x.turn(0)));
        counts(all, "the goal of another board reached", 7, 2,
            behind(x -> x.turn(0), x -> x.turn(1), x -> x.board(2, 2), x -> x.turn(0), x -> x.turn(0)));
    }

    private static void accountReachedNot(AllTests all) {
        counts(all, "the goal left by a turn", 7, 0, behind(x -> x.turn(0)));
        counts(all, "the goal neither left nor reached by a turn", 7, 0, behind(x -> x.turn(0), x -> x.turn(0)));
        counts(all, "the goal that stays reached, of . alone", 7, 0, () -> {
            VowelTorus x = Make.puzzle(2, 2, "abcd", "....");
            Make.turn(x, 0, 1);
            return x;
        });
        counts(all, "the goal that stays reached, of letters alike", 7, 0, () -> {
            VowelTorus x = Make.puzzle(2, 2, "aabb", "aabb");
            Make.turn(x, 0, 2);
            return x;
        });
        counts(all, "all but one place at home behind a turn", 7, 0, () -> {
            VowelTorus x = Make.puzzle(2, 2, "bacd", "abcl");
            x.turn(0);
            return x;
        });
        counts(all, "the goal reached by a scramble", 7, 0, behind(x -> x.turn(1), x -> x.scramble(383, 1)));
        counts(all, "the goal reached by a scramble of a text", 7, 0, behind(x -> Make.run(x, "t1;r383/1")));
        counts(all, "the goal reached by a swap", 7, 0, behind(x -> x.swap(0, 1), x -> x.swap(0, 1)));
        counts(all, "the goal reached by put", 7, 0, behind(x -> x.put(0, 'l'), x -> x.put(0, 'a')));
        counts(all, "the goal reached by goal", 7, 0, behind(x -> x.turn(0), x -> Make.run(x, "g0c;g1a;g2b")));
        counts(all, "the goal reached by board", 7, 0, behind(x -> x.turn(0), x -> x.board(3, 3)));
        counts(all, "the goal reached by undo", 7, 0, behind(x -> x.turn(0), VowelTorus::undo));
        counts(all, "the goal reached by restore", 7, 0, behind(VowelTorus::save, x -> x.turn(0), VowelTorus::restore));
        counts(all, "the goal reached by a turn that is undone", 7, 0,
            behind(x -> x.turn(0), x -> x.turn(1), VowelTorus::undo));
    }

    // Promise 35.

    private static void isWell(AllTests all, String name, Supplier<VowelTorus> make) {
        all.add("35 isWell: " + name, () -> {
            VowelTorus x = make.get();
            String before = Look.all(x);
            Check.isTrue("isWell", x.isWell());
            Check.is("all behind it", before, Look.all(x));
        });
    }

    private static void well(AllTests all) {
        isWell(all, "a new object", VowelTorus::new);
        isWell(all, "1 turn away", behind(x -> x.turn(11)));
        isWell(all, "3 turns away, the most", behind(x -> Make.run(x, "t0;t6;t9")));
        isWell(all, "4 turns away, by none of both", behind(x -> Make.run(x, "t0;t6;t9;t2")));
        isWell(all, "out of reach by an odd number of swaps", behind(x -> x.swap(0, 8)));
        isWell(all, "out of reach by a letter", behind(x -> x.goal(8, 'l')));
        isWell(all, "one . and an odd number of swaps", behind(x -> x.swap(0, 1), x -> x.goal(8, '.')));
        isWell(all, "parity that cannot be told, a .", behind(x -> x.goal(0, '.')));
        isWell(all, "parity that cannot be told, letters alike", behind(x -> x.put(0, 'b')));
        isWell(all, "all letters alike", () -> Make.puzzle(3, 3, "lllllllll", "lllllllll"));
        isWell(all, "a goal of . alone", () -> Make.puzzle(3, 3, LETTERS, DOTS));
        isWell(all, "one swap of 2 by 2, which a turn makes", () -> Make.puzzle(2, 2, "bacd", "abcd"));
        isWell(all, "2 by 3, three columns away", () -> Make.puzzle(2, 3, "aaabbb", "bbbaaa"));
        isWell(all, "3 by 2, three rows away", () -> Make.puzzle(3, 2, "ababab", "bababa"));
        for (int[] size : Edges.SIZES) {
            isWell(all, "all barred, " + size[0] + " by " + size[1], () -> Make.allBarred(size[0], size[1]));
        }
        isWell(all, "all barred, not reached", () -> {
            VowelTorus x = Make.allBarred(3, 3);
            x.swap(0, 8);
            x.swap(1, 8);
            return x;
        });
    }

    // Promises 36 and 37.

    private static void meanIs(AllTests all, String name, double due, int rows, int columns, String letters,
            String goal) {
        all.add("36 meanFar: " + name, () -> {
            VowelTorus x = Make.puzzle(rows, columns, letters, goal);
            String before = Look.all(x);
            Check.is("meanFar", due, x.meanFar());
            Check.is("all behind it", before, Look.all(x));
        });
    }

    private static void meanFar(AllTests all) {
        meanIs(all, "all at home", 0.0, 3, 3, LETTERS, LETTERS);
        meanIs(all, "one place alone, at home", 0.0, 3, 3, LETTERS, "........i");
        meanIs(all, "one place alone, as far as can be", 2.0, 3, 3, LETTERS, "i........");
        meanIs(all, "one place alone, the last", 1.0, 3, 3, LETTERS, "........c");
        meanIs(all, "one swap of all", 2.0 / 9.0, 3, 3, LETTERS, "bacdefghi");
        meanIs(all, "one swap round the torus", 2.0 / 9.0, 3, 3, LETTERS, "gbcdefahi");
        meanIs(all, "one swap aslant", 4.0 / 9.0, 3, 3, LETTERS, "ibcdefgha");
        meanIs(all, "places with . are left out", 2.0 / 8.0, 3, 3, LETTERS, "bacdefgh.");
        meanIs(all, "a letter that is twice on the board is left out", 1.0, 3, 3, "aacdefghh", "ahf......");
        meanIs(all, "a letter that is not on the board is left out", 1.0 / 2.0, 2, 2, "abcd", "lblc");
        meanIs(all, "a letter at several places of the goal counts at each", 4.0 / 4.0, 2, 2, "abcd", "aaaa");
        meanIs(all, "a letter at two places of the goal, one of them at home", 0.5, 3, 3, LETTERS, "a.a......");
        meanIs(all, "2 by 3", 4.0 / 3.0, 2, 3, "abcdef", "fe..b.");
        meanIs(all, "3 by 2, round the torus", 1.0, 3, 2, "abcdef", "e.....");
        all.add("36 meanFar: bars do not matter for it", () -> {
            VowelTorus x = Make.allBarred(3, 3);
            x.swap(0, 8);
            Check.is("meanFar", 4.0 / 9.0, x.meanFar());
        });
    }

    private static void meanFarNone(AllTests all) {
        String[][] none = {{"the goal has . alone", LETTERS, DOTS}, {"all letters are alike", "lllllllll", "lllllllll"},
            {"each letter of the goal is twice on the board", "aabbccddd", "abcdabcda"},
            {"no letter of the goal is on the board", LETTERS, "lkjlkjlkj"},
            {"letters that are once on the board are not in the goal", "aabcdefgh", "lal......"},
            {"2 by 2, of . alone", "abcd", "...."}};
        for (String[] one : none) {
            all.add("36 meanFar: none, " + one[0], () -> {
                int side = one[1].length() == 9 ? 3 : 2;
                VowelTorus x = Make.puzzle(side, side, one[1], one[2]);
                Check.failsAlone("meanFar", NO_MEAN, x, x::meanFar);
            });
        }
    }

    private static void shareIs(AllTests all, String name, float due, int rows, int columns, String letters,
            String goal) {
        all.add("37 homeShare: " + name, () -> {
            VowelTorus x = Make.puzzle(rows, columns, letters, goal);
            String before = Look.all(x);
            Check.is("homeShare", due, x.homeShare());
            Check.is("all behind it", before, Look.all(x));
        });
    }

    private static void homeShare(AllTests all) {
        shareIs(all, "all", 1f, 3, 3, LETTERS, LETTERS);
        shareIs(all, "none", 0f, 3, 3, LETTERS, "bcdefghia");
        shareIs(all, "one of nine", 1f / 9f, 3, 3, LETTERS, "allllllll");
        shareIs(all, "eight of nine", 8f / 9f, 3, 3, LETTERS, "abcdefghl");
        shareIs(all, "seven of nine, as a float", 7f / 9f, 3, 3, LETTERS, "bacdefghi");
        shareIs(all, "places with . alone", 1f, 3, 3, LETTERS, DOTS);
        shareIs(all, "one of six", 1f / 6f, 2, 3, "abcdef", "lllllf");
        shareIs(all, "five of six", 5f / 6f, 3, 2, "abcdef", "lbcd.f");
        shareIs(all, "one of four", 0.25f, 2, 2, "abcd", "lll.");
        shareIs(all, "none of four", 0f, 2, 2, "aaaa", "bbbb");
    }

}
