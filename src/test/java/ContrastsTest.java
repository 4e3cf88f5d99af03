/** Promises 28 to 30: pairs, holes, shared. */
public final class ContrastsTest {
    private static final Check check = new Check();

    public static void main(String[] args) {
        pairs();
        pairsOfUnlikeLexemes();
        pairsThrow();
        holes();
        shared();
        sharedOfOne();
        sharedThrows();
        check.close();
    }

    private static void pairs() {
        Fieldgrammar camp = Check.campWithThree();
        Check.word(camp, 0, 0, 0, 0, 1, 2);
        Check.word(camp, 1, 5, 3, 0, 2, 2);
        check.due("pairs(1, 2)", camp.pairs(1, 2), 1);
        check.due("pairs(2, 1)", camp.pairs(2, 1), 1);
        check.due("pairs(0, 1)", camp.pairs(0, 1), 0);
        check.due("pairs(1, 3)", camp.pairs(1, 3), 0);
        Check.word(camp, 2, 0, 0, 0, 1, 2, 2);
        check.due("a longer one", camp.pairs(1, 2), 1);
        Check.word(camp, 2, 0, 0, 0, 1);
        check.due("a shorter one", camp.pairs(1, 2), 1);
        Check.word(camp, 2, 0, 0, 0, 1, 1);
        check.due("unlike the second at two places", camp.pairs(1, 2), 2);
        Check.word(camp, 2, 0, 0, 0, 2, 1);
        check.due("one more, unlike the first at two places", camp.pairs(1, 2), 3);
        Check.word(camp, 2, 0, 0, 0, 1, 2);
        check.due("alike the first, a pair with the second", camp.pairs(1, 2), 4);
        Check.word(camp, 0, 0, 0, 3, 3, 3, 3, 3, 3, 3, 3);
        Check.word(camp, 1, 0, 0, 3, 3, 3, 3, 3, 3, 3, 0);
        check.due("pairs(0, 3) at the last of 8", camp.pairs(0, 3), 1);
    }

    private static void pairsOfUnlikeLexemes() {
        Fieldgrammar camp = Check.campWithThree();
        Check.word(camp, 0, 0, 0, 0);
        Check.word(camp, 0, 1, 0, 1);
        check.due("of one lexeme", camp.pairs(0, 1), 0);
        Check.word(camp, 1, 0, 0, 1);
        check.due("of two", camp.pairs(0, 1), 1);
        camp.merge(1, 0);
        check.due("merged", camp.pairs(0, 1), 0);
        camp.split(0, 1);
        check.due("split", camp.pairs(0, 1), 1);
        camp.undo();
        camp.undo();
        check.due("taken back", camp.pairs(0, 1), 1);
        camp.hear(2, 0, 0);
        camp.hear(1, 0, 0);
        check.due("empty ones", camp.pairs(0, 1), 1);
        camp.forget(2);
        check.due("one forgotten", camp.pairs(0, 1), 0);
    }

    private static void pairsThrow() {
        Fieldgrammar camp = Check.campWithThree();
        check.throwing("pairs(3, 3)", Check.ARGUMENT, () -> camp.pairs(3, 3));
        check.throwing("pairs(4, 4)", Check.BOUNDS, () -> camp.pairs(4, 4));
        check.throwing("pairs(0, 4)", Check.BOUNDS, () -> camp.pairs(0, 4));
        check.throwing("pairs(4, 0)", Check.BOUNDS, () -> camp.pairs(4, 0));
        check.throwing("pairs(-1, 0)", Check.BOUNDS, () -> camp.pairs(-1, 0));
        check.throwing("pairs(0, -1)", Check.BOUNDS, () -> camp.pairs(0, -1));
    }

    private static void holes() {
        Fieldgrammar camp = Check.campWithThree();
        check.due("holes(0)", camp.holes(0), 255);
        camp.hear(0, 0, 0);
        camp.hear(0, 7, 3);
        camp.hear(0, 7, 2);
        camp.hear(1, 3, 2);
        check.due("holes(0)", camp.holes(0), 126);
        check.due("holes(1)", camp.holes(1), 247);
        Check.exception(camp, 0, 2, 1);
        check.due("holes(0), an exception", camp.holes(0), 126);
        camp.forget(1);
        check.due("holes(0), one of two forgotten", camp.holes(0), 126);
        camp.forget(2);
        check.due("holes(0), both forgotten", camp.holes(0), 254);
        for (int cell = 0; cell < 8; cell++) {
            camp.hear(2, cell, 0);
        }
        check.due("holes(2)", camp.holes(2), 0);
        check.throwing("holes(3)", Check.BOUNDS, () -> camp.holes(3));
        check.throwing("holes(-1)", Check.BOUNDS, () -> camp.holes(-1));
        camp.merge(1, 0);
        check.throwing("holes(1), gone", Check.BOUNDS, () -> camp.holes(1));
    }

    private static void shared() {
        Fieldgrammar camp = Check.campWithThree();
        Check.word(camp, 2, 3, 2, 1);
        Check.word(camp, 2, 3, 3, 1);
        check.due("the first two words", camp.shared(2, 3), 1);
        check.due("the first two words the other way round", camp.shared(3, 2), 1);
        camp.forget(0);
        camp.forget(1);
        Check.word(camp, 0, 0, 0, 1);
        Check.word(camp, 0, 0, 0, 2);
        Check.word(camp, 0, 0, 1, 2);
        Check.word(camp, 0, 0, 1, 1);
        check.due("a cell is counted once", camp.shared(0, 1), 1);
        check.due("the other way round", camp.shared(1, 0), 1);
        Check.word(camp, 1, 0, 1, 1);
        Check.word(camp, 1, 1, 0, 1);
        check.due("unlike cells", camp.shared(0, 1), 1);
        Check.word(camp, 1, 0, 0, 2);
        check.due("unlike forms", camp.shared(0, 1), 1);
        Check.word(camp, 2, 7, 0);
        Check.word(camp, 2, 7, 1);
        check.due("empty forms", camp.shared(0, 1), 2);
        check.due("another speaker", camp.shared(0, 2), 0);
        camp.forget(2);
        check.due("one of two forgotten", camp.shared(0, 1), 2);
        camp.forget(4);
        check.due("the other one's forgotten", camp.shared(0, 1), 1);
        Check.word(camp, 0, 1, 1, 1);
        check.due("unlike lexemes", camp.shared(0, 1), 1);
        camp.merge(1, 0);
        check.due("of one lexeme now", camp.shared(0, 1), 2);
    }

    private static void sharedOfOne() {
        Fieldgrammar camp = Check.campWithThree();
        Check.word(camp, 0, 0, 3, 1);
        Check.word(camp, 0, 0, 3, 2);
        Check.word(camp, 0, 6, 3, 2);
        Check.word(camp, 2, 6, 3);
        Check.word(camp, 2, 5, 2);
        check.due("shared(3, 3)", camp.shared(3, 3), 3);
        check.due("shared(2, 2)", camp.shared(2, 2), 1);
        check.due("shared(1, 1)", camp.shared(1, 1), 0);
        camp.forget(3);
        check.due("shared(3, 3), one forgotten", camp.shared(3, 3), 2);
    }

    private static void sharedThrows() {
        Fieldgrammar camp = Check.campWithThree();
        check.throwing("shared(0, 4)", Check.BOUNDS, () -> camp.shared(0, 4));
        check.throwing("shared(4, 0)", Check.BOUNDS, () -> camp.shared(4, 0));
        check.throwing("shared(-1, 0)", Check.BOUNDS, () -> camp.shared(-1, 0));
        check.throwing("shared(0, -1)", Check.BOUNDS, () -> camp.shared(0, -1));
    }
}
