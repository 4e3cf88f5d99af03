/** Promises 12 to 15: hear, correct, forget, except. */
public final class WordsTest {
    private static final Check check = new Check();

    public static void main(String[] args) {
        hear();
        hearThrows();
        hearLimit();
        correct();
        forget();
        forgetIsForGood();
        except();
        exceptThrows();
        check.close();
    }

    private static Fieldgrammar campWithTwo() {
        Fieldgrammar camp = Check.camp(3);
        Check.lexeme(camp, 0, 1);
        Check.lexeme(camp, 2);
        return camp;
    }

    private static void hear() {
        Fieldgrammar camp = campWithTwo();
        Check.draft(camp, 0, 1, 2, 0, 1, 2, 0, 1);
        check.due("hear(1, 7, 3)", camp.hear(1, 7, 3), 0);
        check.due("the draft is empty", camp.wipe(), 0);
        check.due("hear(0, 0, 0), empty", camp.hear(0, 0, 0), 1);
        check.due("lexeme of 0", camp.ofWord(0, 0), 1);
        check.due("cell of 0", camp.ofWord(0, 1), 7);
        check.due("speaker of 0", camp.ofWord(0, 2), 3);
        check.due("length of 0", camp.ofWord(0, 3), 8);
        check.due("length of 1", camp.ofWord(1, 3), 0);
        check.due("the same again is another word", camp.hear(0, 0, 0), 2);
    }

    private static void hearThrows() {
        Fieldgrammar camp = campWithTwo();
        camp.merge(1, 0);
        Check.draft(camp, 0, 1);
        check.throwing("hear(2, 0, 0)", Check.BOUNDS, () -> camp.hear(2, 0, 0));
        check.throwing("hear(-1, 0, 0)", Check.BOUNDS, () -> camp.hear(-1, 0, 0));
        check.throwing("hear(1, 0, 0), gone", Check.BOUNDS, () -> camp.hear(1, 0, 0));
        check.throwing("hear(0, 8, 0)", Check.BOUNDS, () -> camp.hear(0, 8, 0));
        check.throwing("hear(0, -1, 0)", Check.BOUNDS, () -> camp.hear(0, -1, 0));
        check.throwing("hear(0, 0, 4)", Check.BOUNDS, () -> camp.hear(0, 0, 4));
        check.throwing("hear(0, 0, -1)", Check.BOUNDS, () -> camp.hear(0, 0, -1));
        check.due("the draft stays", camp.wipe(), 2);
        check.due("holes(0)", camp.holes(0), 255);
        check.due("hear(0, 0, 0)", camp.hear(0, 0, 0), 0);
    }

    private static void hearLimit() {
        Fieldgrammar camp = campWithTwo();
        for (int number = 0; number < 40; number++) {
            check.due("hear", camp.hear(number % 2, number % 8, number % 4), number);
        }
        camp.forget(39);
        camp.put(0);
        check.throwing("hear, the 41st", Check.STATE, () -> camp.hear(0, 0, 0));
        check.throwing("hear, the 41st, no such speaker", Check.BOUNDS, () -> camp.hear(0, 0, 4));
        check.due("the draft stays", camp.wipe(), 1);
        check.due("forget(38)", camp.forget(38), 38);
    }

    private static void correct() {
        Fieldgrammar camp = campWithTwo();
        Check.word(camp, 0, 3, 1, 0, 1);
        Check.draft(camp, 0, 1);
        check.due("correct(0) with the same", camp.correct(0), false);
        check.due("the draft is empty", camp.wipe(), 0);
        Check.draft(camp, 0, 1, 0);
        check.due("correct(0) with a longer one", camp.correct(0), true);
        check.due("its length", camp.ofWord(0, 3), 3);
        check.due("the draft is empty", camp.wipe(), 0);
        check.due("correct(0) with none", camp.correct(0), true);
        check.due("its length", camp.ofWord(0, 3), 0);
        check.due("correct(0) with none again", camp.correct(0), false);
        check.due("its cell stays", camp.ofWord(0, 1), 3);
        camp.put(2);
        check.throwing("correct(1)", Check.BOUNDS, () -> camp.correct(1));
        check.throwing("correct(-1)", Check.BOUNDS, () -> camp.correct(-1));
        camp.hear(0, 0, 0);
        camp.forget(1);
        camp.put(2);
        check.throwing("correct(1), forgotten", Check.BOUNDS, () -> camp.correct(1));
        check.due("the draft stays", camp.wipe(), 1);
    }

    private static void forget() {
        Fieldgrammar camp = campWithTwo();
        camp.hear(0, 0, 0);
        camp.hear(0, 1, 0);
        camp.hear(1, 2, 1);
        check.due("forget(1)", camp.forget(1), 2);
        check.throwing("forget(1) again", Check.BOUNDS, () -> camp.forget(1));
        check.throwing("ofWord(1, 0)", Check.BOUNDS, () -> camp.ofWord(1, 0));
        check.due("forget(2)", camp.forget(2), 1);
        check.due("forget(0)", camp.forget(0), 0);
        check.throwing("forget(3)", Check.BOUNDS, () -> camp.forget(3));
        check.throwing("forget(-1)", Check.BOUNDS, () -> camp.forget(-1));
        check.due("the next word has a number of its own", camp.hear(0, 0, 0), 3);
    }

    /** A forgotten word counts nowhere, and no merge or undo brings it back. */
    private static void forgetIsForGood() {
        Fieldgrammar camp = campWithTwo();
        Check.word(camp, 0, 0, 0, 1);
        Check.word(camp, 1, 0, 0, 2);
        check.due("misfit(0)", camp.misfit(0), 0);
        check.due("pairs(1, 2)", camp.pairs(1, 2), 1);
        check.due("fitting()", camp.fitting(), 0);
        camp.forget(0);
        check.due("misfit(0)", camp.misfit(0), -1);
        check.due("pairs(1, 2)", camp.pairs(1, 2), 0);
        check.due("fitting()", camp.fitting(), 1);
        check.due("holes(0)", camp.holes(0), 255);
        check.due("shared(0, 0)", camp.shared(0, 0), 1);
        check.due("merge(0, 1)", camp.merge(0, 1), 0);
        camp.undo();
        check.throwing("ofWord(0, 0)", Check.BOUNDS, () -> camp.ofWord(0, 0));
        check.due("holes(0)", camp.holes(0), 255);
    }

    private static void except() {
        Fieldgrammar camp = campWithTwo();
        Check.word(camp, 0, 4, 0, 2, 2);
        check.due("except(0, 4, true)", Check.exception(camp, 0, 4, 2, 2), false);
        check.due("the draft is empty", camp.wipe(), 0);
        check.due("the word", Check.spoken(camp, 0, 4), "2 2");
        check.due("another cell's", Check.spoken(camp, 0, 3), "0 1");
        check.due("another lexeme's", Check.spoken(camp, 1, 4), "2");
        check.due("it fits", camp.ofWord(0, 4), 1);
        check.due("another one in its place", Check.exception(camp, 0, 4, 1), true);
        check.due("the word", Check.spoken(camp, 0, 4), "1");
        check.due("it does not fit", camp.ofWord(0, 4), 0);
        Check.draft(camp, 0, 0, 0);
        check.due("taken back", camp.except(0, 4, false), true);
        check.due("the draft stays", camp.wipe(), 3);
        check.due("the word", Check.spoken(camp, 0, 4), "0 1");
        check.due("taken back again", camp.except(0, 4, false), false);
        check.due("an empty one", camp.except(0, 4, true), false);
        check.due("the word", Check.spoken(camp, 0, 4), "");
        check.due("an empty one again", camp.except(0, 4, true), true);
    }

    private static void exceptThrows() {
        Fieldgrammar camp = campWithTwo();
        camp.merge(1, 0);
        Check.draft(camp, 1);
        check.throwing("except(2, 0, true)", Check.BOUNDS, () -> camp.except(2, 0, true));
        check.throwing("except(-1, 0, false)", Check.BOUNDS, () -> camp.except(-1, 0, false));
        check.throwing("except(1, 0, true), gone", Check.BOUNDS, () -> camp.except(1, 0, true));
        check.throwing("except(0, 8, true)", Check.BOUNDS, () -> camp.except(0, 8, true));
        check.throwing("except(0, -1, false)", Check.BOUNDS, () -> camp.except(0, -1, false));
        check.due("the draft stays", camp.wipe(), 1);
    }
}
