/** Promises 16 to 18: merge, split, undo. */
public final class LexiconTest {
    private static final Check check = new Check();

    public static void main(String[] args) {
        merge();
        mergeMovesExceptions();
        mergeThrows();
        split();
        splitThrows();
        undoOfMerge();
        undoOfSplit();
        undoInTurn();
        undoThrows();
        manyMergesAndSplits();
        check.close();
    }

    private static void merge() {
        Fieldgrammar camp = Check.campWithThree();
        Check.word(camp, 0, 0, 0, 0);
        Check.word(camp, 0, 5, 0, 1);
        Check.word(camp, 1, 2, 0, 1);
        Check.word(camp, 0, 6, 0, 3);
        camp.forget(3);
        camp.put(3);
        check.due("merge(0, 1)", camp.merge(0, 1), 2);
        check.due("the draft stays", camp.wipe(), 1);
        check.due("lexeme of 0", camp.ofWord(0, 0), 1);
        check.due("cell of 1", camp.ofWord(1, 1), 5);
        check.due("holes(1)", camp.holes(1), 255 - 1 - 4 - 32);
        check.due("0 fits no more", camp.ofWord(0, 4), 0);
        check.due("1 fits now", camp.ofWord(1, 4), 1);
        check.due("the form is that of the other one", Check.spoken(camp, 1, 0), "1");
        check.throwing("holes(0)", Check.BOUNDS, () -> camp.holes(0));
        check.due("merge(2, 1), no words", camp.merge(2, 1), 0);
    }

    private static void mergeMovesExceptions() {
        Fieldgrammar camp = Check.campWithThree();
        Check.exception(camp, 0, 0, 3, 3, 0);
        Check.exception(camp, 0, 7, 3, 3, 1);
        Check.exception(camp, 0, 1, 3, 0);
        Check.exception(camp, 0, 2, 3, 1);
        Check.exception(camp, 0, 6);
        Check.exception(camp, 1, 2, 3, 2);
        Check.exception(camp, 1, 3, 3, 3);
        camp.merge(0, 1);
        check.due("one of the first cell", Check.spoken(camp, 1, 0), "3 3 0");
        check.due("one of the last cell", Check.spoken(camp, 1, 7), "3 3 1");
        check.due("one that it had none for", Check.spoken(camp, 1, 1), "3 0");
        check.due("one that it had", Check.spoken(camp, 1, 2), "3 2");
        check.due("one that it alone had", Check.spoken(camp, 1, 3), "3 3");
        check.due("an empty one", camp.length(1, 6), 0);
        check.due("none", Check.spoken(camp, 1, 4), "1");
        check.due("it is an exception of that one now", camp.except(1, 1, false), true);
    }

    private static void mergeThrows() {
        Fieldgrammar camp = Check.campWithThree();
        check.throwing("merge(1, 1)", Check.ARGUMENT, () -> camp.merge(1, 1));
        check.throwing("merge(3, 1)", Check.BOUNDS, () -> camp.merge(3, 1));
        check.throwing("merge(1, 3)", Check.BOUNDS, () -> camp.merge(1, 3));
        check.throwing("merge(3, 3)", Check.BOUNDS, () -> camp.merge(3, 3));
        check.throwing("merge(-1, 0)", Check.BOUNDS, () -> camp.merge(-1, 0));
        camp.merge(0, 1);
        check.throwing("merge(0, 1), gone", Check.BOUNDS, () -> camp.merge(0, 1));
        check.throwing("merge(2, 0), gone", Check.BOUNDS, () -> camp.merge(2, 0));
        check.throwing("merge(0, 0), gone", Check.BOUNDS, () -> camp.merge(0, 0));
        check.due("one merge alone was made", camp.undo(), 0);
    }

    private static void split() {
        Fieldgrammar camp = Check.campWithThree();
        Check.word(camp, 1, 0, 0, 0);
        Check.word(camp, 1, 1, 0, 1);
        Check.word(camp, 2, 0, 0, 2);
        Check.exception(camp, 1, 0, 3);
        Check.exception(camp, 1, 7, 3, 3);
        Check.exception(camp, 1, 3, 3, 1);
        camp.put(3);
        check.due("split(1, cells 0, 7)", camp.split(1, 1 + 128), 3);
        check.due("the draft stays", camp.wipe(), 1);
        check.due("lexeme of 0", camp.ofWord(0, 0), 3);
        check.due("lexeme of 1", camp.ofWord(1, 0), 1);
        check.due("lexeme of 2", camp.ofWord(2, 0), 2);
        check.due("the exception went in cell 0", Check.spoken(camp, 1, 0), "1");
        check.due("and is there", Check.spoken(camp, 3, 0), "3");
        check.due("the exception went in cell 7", Check.spoken(camp, 1, 7), "1");
        check.due("and is there", Check.spoken(camp, 3, 7), "3 3");
        check.due("that of cell 3 stays", Check.spoken(camp, 1, 3), "3 1");
        check.due("and is not there", Check.spoken(camp, 3, 3), "1");
        check.due("split(3, all)", camp.split(3, 255), 4);
        check.due("holes(3)", camp.holes(3), 255);
        check.due("holes(4)", camp.holes(4), 254);
    }

    private static void splitThrows() {
        Fieldgrammar camp = Check.campWithThree();
        check.throwing("split(0, 0)", Check.ARGUMENT, () -> camp.split(0, 0));
        check.throwing("split(0, 256)", Check.ARGUMENT, () -> camp.split(0, 256));
        check.throwing("split(0, -1)", Check.ARGUMENT, () -> camp.split(0, -1));
        check.throwing("split(3, 0)", Check.BOUNDS, () -> camp.split(3, 0));
        check.throwing("split(-1, 1)", Check.BOUNDS, () -> camp.split(-1, 1));
        camp.merge(0, 1);
        check.throwing("split(0, 1), gone", Check.BOUNDS, () -> camp.split(0, 1));
        for (int number = 3; number < 16; number++) {
            check.due("split(1, 1)", camp.split(1, 1), number);
        }
        check.throwing("split(1, 1), the 17th lexeme", Check.STATE, () -> camp.split(1, 1));
        check.throwing("split(1, 0), the 17th lexeme", Check.ARGUMENT, () -> camp.split(1, 0));
        check.throwing("split(0, 0), the 17th lexeme", Check.BOUNDS, () -> camp.split(0, 0));
        check.due("undo()", camp.undo(), 13);
    }

    private static void undoOfMerge() {
        Fieldgrammar camp = Check.campWithThree();
        Check.word(camp, 0, 0, 0, 0);
        Check.word(camp, 1, 0, 0, 1);
        Check.exception(camp, 0, 1, 3);
        Check.exception(camp, 1, 2, 3, 3);
        camp.merge(0, 1);
        Check.word(camp, 1, 4, 2, 1);
        Check.exception(camp, 1, 5, 2, 2);
        camp.except(1, 2, false);
        Check.exception(camp, 1, 1, 2);
        Check.draft(camp, 2, 2, 2);
        camp.reform(1);
        camp.put(3);
        check.due("undo()", camp.undo(), 0);
        check.due("the draft stays", camp.wipe(), 1);
        check.due("lexeme of 0", camp.ofWord(0, 0), 0);
        check.due("lexeme of 1", camp.ofWord(1, 0), 1);
        check.due("lexeme of the one heard since", camp.ofWord(2, 0), 1);
        check.due("its form", Check.spoken(camp, 0, 0), "0");
        check.due("its exception", Check.spoken(camp, 0, 1), "3");
        check.due("the other one's form is the new one", Check.spoken(camp, 1, 0), "2 2 2");
        check.due("the other one has it no more", Check.spoken(camp, 1, 1), "2 2 2");
        check.due("the one taken back since", Check.spoken(camp, 1, 2), "3 3");
        check.due("the one named since", Check.spoken(camp, 1, 5), "2 2 2");
    }

    private static void undoOfSplit() {
        Fieldgrammar camp = Check.campWithThree();
        Check.word(camp, 0, 0, 0, 0);
        Check.word(camp, 0, 1, 0, 0);
        Check.exception(camp, 0, 0, 3);
        Check.exception(camp, 0, 1, 3, 1);
        camp.split(0, 1);
        Check.word(camp, 3, 6, 1, 2);
        Check.exception(camp, 3, 0, 2);
        Check.exception(camp, 3, 6, 2, 2);
        camp.except(0, 1, false);
        Check.exception(camp, 0, 0, 1, 1);
        check.due("undo()", camp.undo(), 0);
        check.throwing("holes(3)", Check.BOUNDS, () -> camp.holes(3));
        check.due("lexeme of 0", camp.ofWord(0, 0), 0);
        check.due("lexeme of the one that came since", camp.ofWord(2, 0), 0);
        check.due("holes(0)", camp.holes(0), 255 - 1 - 2 - 64);
        check.due("the exception of cell 0", Check.spoken(camp, 0, 0), "3");
        check.due("the exception of cell 1", Check.spoken(camp, 0, 1), "3 1");
        check.due("none of cell 6", Check.spoken(camp, 0, 6), "0");
        check.due("the next one has a number of its own", camp.split(0, 2), 4);
        check.due("lexeme of 1", camp.ofWord(1, 0), 4);
        check.due("exception of cell 1", Check.spoken(camp, 4, 1), "3 1");
    }

    private static void undoInTurn() {
        Fieldgrammar camp = Check.campWithThree();
        Check.word(camp, 0, 0, 0, 0);
        Check.word(camp, 1, 1, 0, 1);
        Check.word(camp, 2, 2, 0, 2);
        check.due("merge(0, 1)", camp.merge(0, 1), 1);
        check.due("split(1, cells 0, 1)", camp.split(1, 3), 3);
        check.due("merge(1, 2)", camp.merge(1, 2), 0);
        check.due("merge(3, 2)", camp.merge(3, 2), 2);
        check.due("undo()", camp.undo(), 3);
        check.due("lexeme of 0", camp.ofWord(0, 0), 3);
        check.due("lexeme of 2", camp.ofWord(2, 0), 2);
        check.throwing("holes(1)", Check.BOUNDS, () -> camp.holes(1));
        check.due("undo()", camp.undo(), 2);
        check.due("holes(1)", camp.holes(1), 255);
        check.due("undo()", camp.undo(), 1);
        check.due("lexeme of 0", camp.ofWord(0, 0), 1);
        check.throwing("holes(3)", Check.BOUNDS, () -> camp.holes(3));
        check.due("merge(1, 2)", camp.merge(1, 2), 2);
        check.due("undo()", camp.undo(), 1);
        check.due("undo()", camp.undo(), 0);
        check.due("lexeme of 0", camp.ofWord(0, 0), 0);
        check.due("lexeme of 1", camp.ofWord(1, 0), 1);
    }

    private static void undoThrows() {
        Fieldgrammar camp = Check.campWithThree();
        camp.put(1);
        check.throwing("undo()", Check.STATE, () -> camp.undo());
        check.due("the draft stays", camp.wipe(), 1);
        camp.split(0, 1);
        camp.undo();
        check.throwing("undo() of none left", Check.STATE, () -> camp.undo());
    }

    /** As many as can be: each split takes one of 16 numbers, each merge leaves one lexeme less. */
    private static void manyMergesAndSplits() {
        Fieldgrammar camp = Check.camp(1);
        Check.lexeme(camp, 0);
        for (int number = 1; number < 16; number++) {
            camp.split(0, number);
            Check.word(camp, number, number % 8, 0, 0);
        }
        for (int number = 15; number > 0; number--) {
            check.due("merge into 0", camp.merge(number, 0), 1);
        }
        for (int left = 29; left >= 15; left--) {
            check.due("undo() of a merge", camp.undo(), left);
        }
        check.due("lexeme of 14", camp.ofWord(14, 0), 15);
        for (int left = 14; left >= 0; left--) {
            check.due("undo() of a split", camp.undo(), left);
        }
        check.due("lexeme of 14", camp.ofWord(14, 0), 0);
        check.due("holes(0)", camp.holes(0), 0);
    }
}
