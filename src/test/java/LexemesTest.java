/** Promises 6 to 8: lexeme, reform, ending. */
public final class LexemesTest {
    private static final Check check = new Check();

    public static void main(String[] args) {
        lexeme();
        lexemeLimit();
        lexemeLimitCountsThoseGone();
        reform();
        reformOfOneGone();
        ending();
        endingLimits();
        check.close();
    }

    private static void lexeme() {
        Fieldgrammar camp = Check.camp(3);
        check.throwing("lexeme() of none", Check.STATE, () -> camp.lexeme());
        Check.draft(camp, 2);
        check.due("lexeme()", camp.lexeme(), 0);
        check.due("wipe() behind it", camp.wipe(), 0);
        Check.draft(camp, 0, 1, 2, 2, 1, 0);
        check.due("lexeme()", camp.lexeme(), 1);
        check.due("its word", Check.spoken(camp, 1, 0), "0 1 2 2 1 0");
        check.due("the other one's", Check.spoken(camp, 0, 5), "2");
        Check.draft(camp, 0, 0, 0, 0, 0, 0, 0);
        check.throwing("lexeme() of 7", Check.STATE, () -> camp.lexeme());
        check.throwing("length(2, 0)", Check.BOUNDS, () -> camp.length(2, 0));
        check.due("the draft stays", camp.wipe(), 7);
    }

    private static void lexemeLimit() {
        Fieldgrammar camp = Check.camp(1);
        for (int number = 0; number < 16; number++) {
            check.due("lexeme()", Check.lexeme(camp, 0), number);
        }
        Check.draft(camp, 0, 0);
        check.throwing("lexeme(), the 17th", Check.STATE, () -> camp.lexeme());
        check.due("the draft stays", camp.wipe(), 2);
        check.due("length(15, 7)", camp.length(15, 7), 1);
        check.throwing("length(16, 0)", Check.BOUNDS, () -> camp.length(16, 0));
    }

    private static void lexemeLimitCountsThoseGone() {
        Fieldgrammar camp = Camps.spent();
        check.throwing("lexeme() behind 16 that were", Check.STATE, () -> camp.lexeme());
        check.throwing("split(1, 1) behind 16 that were", Check.STATE, () -> camp.split(1, 1));
    }

    private static void reform() {
        Fieldgrammar camp = Check.camp(3);
        Check.lexeme(camp, 0);
        Check.lexeme(camp, 1);
        Check.draft(camp, 2, 1, 2, 0, 0, 0);
        camp.reform(0);
        check.due("its word", Check.spoken(camp, 0, 0), "2 1 2 0 0 0");
        check.due("the other one's", Check.spoken(camp, 1, 0), "1");
        check.due("wipe() behind it", camp.wipe(), 0);
        check.throwing("reform(0) of none", Check.STATE, () -> Check.reformed(camp, 0));
        check.throwing("reform(2) of none", Check.BOUNDS, () -> Check.reformed(camp, 2));
        check.throwing("reform(-1)", Check.BOUNDS, () -> Check.reformed(camp, -1));
        Check.draft(camp, 0, 0, 0, 0, 0, 0, 0);
        check.throwing("reform(1) of 7", Check.STATE, () -> Check.reformed(camp, 1));
        check.due("the draft stays", camp.wipe(), 7);
        check.due("the word stays", Check.spoken(camp, 1, 0), "1");
    }

    private static void reformOfOneGone() {
        Fieldgrammar camp = Check.camp(2);
        Check.lexeme(camp, 0);
        Check.lexeme(camp, 1);
        camp.merge(0, 1);
        camp.put(1);
        check.throwing("reform(0), gone", Check.BOUNDS, () -> Check.reformed(camp, 0));
        check.due("the draft stays", camp.wipe(), 1);
    }

    private static void ending() {
        Fieldgrammar camp = Check.camp(3);
        Check.lexeme(camp, 0, 1);
        Check.lexeme(camp, 0, 0, 0, 0, 0, 1);
        Check.ending(camp, 0, 2);
        check.due("wipe() behind it", camp.wipe(), 0);
        Check.ending(camp, 7, 2, 1);
        check.due("cell 0", Check.spoken(camp, 0, 0), "0 1 2");
        check.due("cell 1", Check.spoken(camp, 0, 1), "0 1");
        check.due("cell 7", Check.spoken(camp, 0, 7), "0 1 2 1");
        check.due("cell 7 of the longest", Check.spoken(camp, 1, 7), "0 0 0 0 0 1 2 1");
        Check.ending(camp, 7, 0);
        check.due("cell 7 with another", Check.spoken(camp, 0, 7), "0 1 0");
        Check.ending(camp, 7);
        check.due("cell 7 with none", Check.spoken(camp, 0, 7), "0 1");
    }

    private static void endingLimits() {
        Fieldgrammar camp = Check.camp(1);
        Check.lexeme(camp, 0);
        Check.draft(camp, 0, 0, 0);
        check.throwing("ending(0) of 3", Check.STATE, () -> Check.ended(camp, 0));
        check.throwing("ending(8) of 3", Check.BOUNDS, () -> Check.ended(camp, 8));
        check.throwing("ending(-1) of 3", Check.BOUNDS, () -> Check.ended(camp, -1));
        check.throwing("ending(MIN)", Check.BOUNDS, () -> Check.ended(camp, Integer.MIN_VALUE));
        check.due("the draft stays", camp.wipe(), 3);
        check.due("length(0, 0)", camp.length(0, 0), 1);
    }
}
