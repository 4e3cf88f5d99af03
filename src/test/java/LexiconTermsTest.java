/** What "Terms" says of merging, splitting and taking back: its edges, and what is gone, forgotten or there again. */
public final class LexiconTermsTest {
    private static final Check check = new Check();
    private static final int ANY = Fieldgrammar.ANY;

    public static void main(String[] args) {
        wordsOfMerge();
        exceptionsOfMerge();
        goneByMerge();
        goneIsAskedOfNowhere();
        formOfSplit();
        wordsOfSplit();
        exceptionsOfSplit();
        latestFirst();
        eachOnce();
        movedWordsGoBack();
        wordsSinceAMergeStay();
        exceptionsOfBothAfterMerge();
        exceptionsOfBothAfterSplit();
        mergedIsThereAgain();
        splitIsGone();
        wordsSinceASplit();
        forgottenStaysForgotten();
        check.close();
    }

    private static void wordsOfMerge() {
        check.term("To merge a lexeme into another one lets all its words be of that one");
        Fieldgrammar camp = Check.campWithThree();
        for (int cell = 0; cell < 8; cell++) {
            Check.word(camp, 0, cell, cell % 4, 1);
        }
        Check.word(camp, 1, 0, 0, 0);
        Check.word(camp, 2, 0, 0, 0);
        check.due("merge(0, 1)", camp.merge(0, 1), 8);
        for (int word = 0; word < 9; word++) {
            check.due("lexeme of " + word, camp.ofWord(word, 0), 1);
        }
        check.due("lexeme of 9", camp.ofWord(9, 0), 2);
        check.due("they fit by its form", camp.ofWord(7, 4), 1);
    }

    private static void exceptionsOfMerge() {
        check.term("and its exceptions, too, for cells for which that one has none");
        Fieldgrammar camp = Check.campWithThree();
        for (int cell = 0; cell < 8; cell++) {
            Check.exception(camp, 0, cell, 3, cell % 4);
        }
        Check.exception(camp, 1, 3, 2, 2);
        Check.exception(camp, 1, 7);
        camp.merge(0, 1);
        for (int cell = 0; cell < 7; cell++) {
            check.due("cell " + cell, Check.spoken(camp, 1, cell), cell == 3 ? "2 2" : "3 " + cell % 4);
        }
        check.due("cell 7, that one has an empty one", Check.spoken(camp, 1, 7), "");
        check.due("another lexeme", Check.spoken(camp, 2, 0), "2");
    }

    private static void goneByMerge() {
        check.term("it is gone then");
        Fieldgrammar camp = Check.campWithThree();
        camp.merge(2, 0);
        camp.put(1);
        check.throwing("length", Check.BOUNDS, () -> camp.length(2, 0));
        check.throwing("hear", Check.BOUNDS, () -> camp.hear(2, 0, 0));
        check.throwing("except", Check.BOUNDS, () -> camp.except(2, 0, true));
        check.throwing("merge into it", Check.BOUNDS, () -> camp.merge(0, 2));
        check.throwing("merge it", Check.BOUNDS, () -> camp.merge(2, 1));
        check.throwing("split", Check.BOUNDS, () -> camp.split(2, 1));
        check.throwing("holes", Check.BOUNDS, () -> camp.holes(2));
        check.due("the next one has another number", camp.lexeme(), 3);
    }

    /** A lexeme that is gone is no question, though its cells were not heard. */
    private static void goneIsAskedOfNowhere() {
        check.term("it is gone then");
        Fieldgrammar camp = Check.camp(4);
        camp.rule(camp.kind(0, 1), 1, ANY, ANY);
        Check.lexeme(camp, 0);
        Check.lexeme(camp, 1);
        check.due("question()", camp.question(), 0);
        camp.merge(0, 1);
        check.due("question() of the other one", camp.question(), -1);
        Check.lexeme(camp, 2);
        check.due("question() of one behind both", camp.question(), 16);
        camp.undo();
        check.due("question() when it is there again", camp.question(), 0);
        camp.merge(1, 0);
        camp.split(0, 255);
        camp.except(0, 0, true);
        camp.undo();
        check.due("question() of the one that was split", camp.question(), 0);
    }

    private static void formOfSplit() {
        check.term("To split a lexeme makes a new one with its form");
        Fieldgrammar camp = Check.campWithThree();
        Check.draft(camp, 3, 2, 1, 0, 1, 2).reform(1);
        check.due("split(1, 1)", camp.split(1, 1), 3);
        check.due("its form", Check.spoken(camp, 3, 5), "3 2 1 0 1 2");
        Check.draft(camp, 0).reform(1);
        check.due("its form stays", Check.spoken(camp, 3, 5), "3 2 1 0 1 2");
        Check.draft(camp, 2).reform(3);
        check.due("the other one's stays", Check.spoken(camp, 1, 5), "0");
        check.due("the one that was split is there", camp.holes(1), 255);
    }

    private static void wordsOfSplit() {
        check.term("of which all its words");
        Fieldgrammar camp = Check.campWithThree();
        for (int word = 0; word < 16; word++) {
            camp.hear(1, word % 8, word / 8);
        }
        camp.hear(0, 0, 0);
        camp.split(1, 1 + 8 + 128);
        for (int word = 0; word < 16; word++) {
            boolean isMoved = word % 8 == 0 || word % 8 == 3 || word % 8 == 7;
            check.due("lexeme of " + word, camp.ofWord(word, 0), isMoved ? 3 : 1);
        }
        check.due("lexeme of another one's", camp.ofWord(16, 0), 0);
    }

    private static void exceptionsOfSplit() {
        check.term("and exceptions of some cells are then");
        Fieldgrammar camp = Check.campWithThree();
        for (int cell = 0; cell < 8; cell++) {
            Check.exception(camp, 1, cell, 3, cell % 4);
        }
        camp.split(1, 1 + 8 + 128);
        for (int cell = 0; cell < 8; cell++) {
            boolean isMoved = cell == 0 || cell == 3 || cell == 7;
            check.due("cell " + cell, Check.spoken(camp, 1, cell), isMoved ? "1" : "3 " + cell % 4);
            check.due("cell " + cell, Check.spoken(camp, 3, cell), isMoved ? "3 " + cell % 4 : "1");
        }
    }

    private static void latestFirst() {
        check.term("Merges and splits can be taken back, the latest one first");
        Fieldgrammar camp = Check.campWithThree();
        camp.merge(0, 1);
        camp.split(1, 1);
        camp.merge(2, 3);
        check.due("undo() of the merge", camp.undo(), 2);
        check.due("length(2, 0)", camp.length(2, 0), 1);
        check.throwing("length(0, 0), gone", Check.BOUNDS, () -> camp.length(0, 0));
        check.due("length(3, 0)", camp.length(3, 0), 1);
        check.due("undo() of the split", camp.undo(), 1);
        check.throwing("length(3, 0), gone", Check.BOUNDS, () -> camp.length(3, 0));
        check.throwing("length(0, 0), gone", Check.BOUNDS, () -> camp.length(0, 0));
        check.due("undo() of the first one", camp.undo(), 0);
        check.due("length(0, 0)", camp.length(0, 0), 1);
    }

    private static void eachOnce() {
        check.term("can be taken back");
        Fieldgrammar camp = Check.campWithThree();
        camp.merge(0, 1);
        camp.split(1, 1);
        check.due("undo()", camp.undo(), 1);
        camp.merge(2, 1);
        check.due("undo() of one since", camp.undo(), 1);
        check.due("undo() of the first one", camp.undo(), 0);
        check.throwing("undo()", Check.STATE, () -> camp.undo());
        check.due("merge(0, 1) again", camp.merge(0, 1), 0);
        check.due("undo()", camp.undo(), 0);
    }

    private static void movedWordsGoBack() {
        check.term("the words that were moved by it are of the lexeme of which they were");
        Fieldgrammar camp = Check.campWithThree();
        Check.word(camp, 0, 0, 0, 0);
        Check.word(camp, 1, 1, 0, 0);
        Check.word(camp, 0, 7, 0, 0);
        camp.merge(0, 1);
        camp.split(1, 128);
        camp.undo();
        check.due("lexeme of 0", camp.ofWord(0, 0), 1);
        check.due("lexeme of 2", camp.ofWord(2, 0), 1);
        camp.undo();
        check.due("lexeme of 0", camp.ofWord(0, 0), 0);
        check.due("lexeme of 1", camp.ofWord(1, 0), 1);
        check.due("lexeme of 2", camp.ofWord(2, 0), 0);
        check.due("holes(0)", camp.holes(0), 126);
    }

    /** The last word that can be heard is moved and goes back like the first one. */
    private static void wordsSinceAMergeStay() {
        check.term("the words that were moved by it");
        Fieldgrammar camp = Check.campWithThree();
        for (int word = 0; word < 39; word++) {
            camp.hear(word % 2, 0, 0);
        }
        check.due("merge(0, 2)", camp.merge(0, 2), 20);
        camp.hear(2, 5, 0);
        check.due("merge(2, 1)", camp.merge(2, 1), 21);
        check.due("undo()", camp.undo(), 1);
        check.due("lexeme of 39", camp.ofWord(39, 0), 2);
        check.due("lexeme of 38", camp.ofWord(38, 0), 2);
        check.due("undo()", camp.undo(), 0);
        check.due("lexeme of 39, heard since", camp.ofWord(39, 0), 2);
        check.due("lexeme of 38", camp.ofWord(38, 0), 0);
        check.due("lexeme of 37", camp.ofWord(37, 0), 1);
    }

    private static void exceptionsOfBothAfterMerge() {
        check.term("and the exceptions of both lexemes are as they were ahead of it");
        Fieldgrammar camp = Check.campWithThree();
        Check.exception(camp, 0, 0, 3);
        Check.exception(camp, 0, 1, 3, 3);
        Check.exception(camp, 0, 2, 3, 0);
        Check.exception(camp, 1, 2, 3, 1);
        Check.exception(camp, 1, 7);
        camp.merge(0, 1);
        camp.except(1, 0, false);
        camp.except(1, 7, false);
        Check.exception(camp, 1, 2, 2, 2);
        Check.exception(camp, 1, 4, 2, 2);
        camp.undo();
        check.due("0: one moved, and taken back since", Check.spoken(camp, 0, 0), "3");
        check.due("0: one moved", Check.spoken(camp, 0, 1), "3 3");
        check.due("0: one not moved", Check.spoken(camp, 0, 2), "3 0");
        check.due("0: none", Check.spoken(camp, 0, 4), "0");
        check.due("1: one moved there", Check.spoken(camp, 1, 0), "1");
        check.due("1: one moved there", camp.except(1, 1, false), false);
        check.due("1: one in place of its own since", Check.spoken(camp, 1, 2), "3 1");
        check.due("1: one named since", Check.spoken(camp, 1, 4), "1");
        check.due("1: an empty one, taken back since", camp.length(1, 7), 0);
    }

    private static void exceptionsOfBothAfterSplit() {
        check.term("the exceptions of both lexemes are as they were ahead of it");
        Fieldgrammar camp = Check.campWithThree();
        Check.exception(camp, 0, 0, 3);
        Check.exception(camp, 0, 1, 3, 3);
        Check.exception(camp, 0, 7);
        Check.exception(camp, 1, 0, 2, 1);
        camp.split(0, 1 + 128);
        Check.exception(camp, 0, 0, 2);
        Check.exception(camp, 0, 5, 2, 2);
        camp.except(0, 1, false);
        Check.exception(camp, 3, 0, 1);
        Check.exception(camp, 3, 6, 1, 1);
        camp.except(3, 7, false);
        camp.undo();
        check.due("one moved, and others named since", Check.spoken(camp, 0, 0), "3");
        check.due("one taken back since", Check.spoken(camp, 0, 1), "3 3");
        check.due("one named since", Check.spoken(camp, 0, 5), "0");
        check.due("one named for the new one", Check.spoken(camp, 0, 6), "0");
        check.due("an empty one, moved and taken back", camp.length(0, 7), 0);
        check.due("another lexeme's", Check.spoken(camp, 1, 0), "2 1");
    }

    private static void mergedIsThereAgain() {
        check.term("the one that was merged is there again, with its form");
        Fieldgrammar camp = Check.campWithThree();
        Check.draft(camp, 3, 2, 1, 0, 1, 3).reform(0);
        camp.merge(0, 1);
        Check.draft(camp, 2, 2).reform(1);
        camp.undo();
        check.due("its form", Check.spoken(camp, 0, 0), "3 2 1 0 1 3");
        check.due("the other one's stays as it is", Check.spoken(camp, 1, 0), "2 2");
        check.due("it can be heard", camp.hear(0, 0, 0), 0);
        check.due("it can be merged again", camp.merge(0, 1), 1);
    }

    private static void splitIsGone() {
        check.term("the one that was made by splitting is gone");
        Fieldgrammar camp = Check.campWithThree();
        camp.split(0, 255);
        Check.draft(camp, 3, 3).reform(3);
        camp.undo();
        camp.put(0);
        check.throwing("length", Check.BOUNDS, () -> camp.length(3, 0));
        check.throwing("hear", Check.BOUNDS, () -> camp.hear(3, 0, 0));
        check.throwing("merge into it", Check.BOUNDS, () -> camp.merge(0, 3));
        check.throwing("split", Check.BOUNDS, () -> camp.split(3, 1));
        check.due("the form of the one that was split", Check.spoken(camp, 0, 0), "0");
        check.due("the next one has another number", camp.lexeme(), 4);
    }

    private static void wordsSinceASplit() {
        check.term("and words that came to it since are of the one that was split");
        Fieldgrammar camp = Check.campWithThree();
        Check.word(camp, 0, 0, 0, 0);
        Check.word(camp, 1, 1, 0, 0);
        camp.split(0, 1);
        Check.word(camp, 3, 2, 0, 0);
        Check.word(camp, 0, 3, 0, 0);
        camp.merge(1, 3);
        Check.word(camp, 3, 4, 0, 0);
        camp.undo();
        check.due("undo()", camp.undo(), 0);
        check.due("one that was moved", camp.ofWord(0, 0), 0);
        check.due("one that came by a merge that was taken back", camp.ofWord(1, 0), 1);
        check.due("one that was heard", camp.ofWord(2, 0), 0);
        check.due("one of the other lexeme", camp.ofWord(3, 0), 0);
        check.due("one that was heard behind the merge", camp.ofWord(4, 0), 0);
        check.due("holes(0)", camp.holes(0), 255 - 1 - 4 - 8 - 16);
    }

    private static void forgottenStaysForgotten() {
        check.term("the words that were moved by it are of the lexeme of which they were");
        Fieldgrammar camp = Check.campWithThree();
        camp.hear(0, 0, 0);
        camp.hear(0, 1, 0);
        camp.forget(0);
        check.due("merge(0, 1), one forgotten", camp.merge(0, 1), 1);
        camp.forget(1);
        camp.undo();
        check.due("holes(0)", camp.holes(0), 255);
        check.due("holes(1)", camp.holes(1), 255);
        check.throwing("ofWord(0, 0)", Check.BOUNDS, () -> camp.ofWord(0, 0));
        check.throwing("ofWord(1, 0)", Check.BOUNDS, () -> camp.ofWord(1, 0));
        check.due("fitting()", camp.fitting(), 1);
    }
}
