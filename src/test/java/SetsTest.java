/** Promises 25 to 27: fitting, smallest, question. */
public final class SetsTest {
    private static final Check check = new Check();
    private static final int ANY = Fieldgrammar.ANY;
    private static final int EDGE = Fieldgrammar.EDGE;

    public static void main(String[] args) {
        fitting();
        fittingOfAllRules();
        fittingInTheOrder();
        fittingWithoutExceptions();
        smallest();
        question();
        questionOfTheMost();
        questionOfAnIdleRule();
        questionOfLowest();
        questionOfFreeCells();
        questionByFittingSets();
        check.close();
    }

    /** Three rules that turn a feature of the whole word each, and a lexeme of one sound. */
    private static Fieldgrammar campWithThreeRules() {
        Fieldgrammar camp = Check.camp(8);
        int all = camp.kind(0, 0);
        camp.rule(all, 1, ANY, ANY);
        camp.rule(all, 2, ANY, ANY);
        camp.rule(all, 3, ANY, ANY);
        Check.lexeme(camp, 0);
        return camp;
    }

    private static void fitting() {
        Fieldgrammar camp = campWithThreeRules();
        check.due("no words", camp.fitting(), 8);
        Check.word(camp, 0, 0, 0, 3);
        check.due("by 0 and 1, or 2", camp.fitting(), 2);
        camp.turn(0, false);
        camp.turn(2, false);
        check.due("whichever are on", camp.fitting(), 2);
        Check.word(camp, 0, 1, 0, 3);
        check.due("another word alike", camp.fitting(), 2);
        Check.word(camp, 0, 1, 0, 2);
        check.due("two words against one another", camp.fitting(), 0);
        check.due("smallest()", camp.smallest(), -1);
        check.due("question()", camp.question(), -1);
        camp.forget(2);
        check.due("the one forgotten", camp.fitting(), 2);
    }

    private static void fittingOfAllRules() {
        Fieldgrammar camp = Check.camp(2);
        int all = camp.kind(0, 0);
        Check.lexeme(camp, 0);
        check.due("no rules", camp.fitting(), 1);
        for (int rule = 0; rule < 6; rule++) {
            camp.rule(all, 1, ANY, ANY);
            check.due("rules", camp.fitting(), 2 << rule);
        }
        Check.word(camp, 0, 0, 0, 1);
        check.due("an odd number of six", camp.fitting(), 32);
        check.due("smallest()", camp.smallest(), 1);
        camp.correct(0);
        check.due("no word is empty", camp.fitting(), 0);
    }

    private static void fittingInTheOrder() {
        Fieldgrammar camp = Check.camp(2);
        int zero = camp.kind(0, 1);
        int one = camp.kind(1, 0);
        Check.lexeme(camp, 0, 0);
        camp.rule(zero, 1, ANY, EDGE);
        camp.rule(one, 0, ANY, ANY);
        Check.word(camp, 0, 0, 0, 0);
        check.due("turned, then left out", camp.fitting(), 1);
        check.due("smallest()", camp.smallest(), 3);
        camp.raise(1);
        check.due("the other way round", camp.fitting(), 0);
    }

    private static void fittingWithoutExceptions() {
        Fieldgrammar camp = campWithThreeRules();
        Check.word(camp, 0, 0, 0, 3);
        Check.word(camp, 0, 1, 0, 5);
        check.due("none fits", camp.fitting(), 0);
        Check.exception(camp, 0, 1, 7);
        check.due("one with an exception does not count", camp.fitting(), 2);
        camp.except(0, 1, false);
        check.due("taken back", camp.fitting(), 0);
    }

    private static void smallest() {
        Fieldgrammar camp = campWithThreeRules();
        check.due("no words", camp.smallest(), 0);
        Check.word(camp, 0, 0, 0, 3);
        check.due("one rule, though of a higher bit", camp.smallest(), 4);
        Check.draft(camp, 1).correct(0);
        check.due("one rule", camp.smallest(), 1);
        Check.draft(camp, 7).correct(0);
        check.due("none", camp.smallest(), -1);
        camp.rule(0, 4, ANY, ANY);
        check.due("two rules of four", camp.smallest(), 4 + 8);
        Check.draft(camp, 4, 4).correct(0);
        check.due("no set", camp.smallest(), -1);
    }

    private static void question() {
        Fieldgrammar camp = campWithThreeRules();
        check.due("all cells alike", camp.question(), 0);
        Check.word(camp, 0, 0, 0, 3);
        check.due("the sets that fit tell the same", camp.question(), -1);
        Check.ending(camp, 5, 0);
        check.due("in all cells", camp.question(), -1);
        camp.rule(camp.kind(0, 0), 4, 0, EDGE);
        check.due("unlike words behind an ending", camp.question(), 5);
    }

    private static void questionOfTheMost() {
        Fieldgrammar camp = Check.camp(4);
        int all = camp.kind(0, 0);
        camp.rule(all, 1, EDGE, ANY);
        camp.rule(all, 2, all, ANY);
        Check.lexeme(camp, 0);
        Check.lexeme(camp, 0);
        check.due("two unlike words", camp.question(), 0);
        Check.ending(camp, 3, 0);
        check.due("four unlike words", camp.question(), 3);
        Check.word(camp, 0, 4, 0, 1);
        check.due("one rule is known: two unlike words", camp.question(), 3);
        Check.word(camp, 0, 3, 0, 1, 2);
        check.due("all is known", camp.question(), -1);
        camp.forget(1);
        Check.exception(camp, 0, 3, 1);
        check.due("that of another lexeme", camp.question(), 8 + 3);
    }

    /** Two sets fit, that of no rules among them, but they tell the same word. */
    private static void questionOfAnIdleRule() {
        Fieldgrammar camp = Check.camp(1);
        camp.rule(camp.kind(1, 0), 0, ANY, ANY);
        Check.lexeme(camp, 0, 0);
        check.due("fitting()", camp.fitting(), 2);
        check.due("question()", camp.question(), -1);
    }

    private static void questionOfLowest() {
        Fieldgrammar camp = campWithThreeRules();
        Check.lexeme(camp, 0);
        Check.lexeme(camp, 1);
        camp.merge(0, 2);
        check.due("the lowest lexeme that is not gone", camp.question(), 8);
        camp.undo();
        check.due("it is there again", camp.question(), 0);
    }

    private static void questionOfFreeCells() {
        Fieldgrammar camp = campWithThreeRules();
        Check.exception(camp, 0, 0, 0);
        check.due("no exception", camp.question(), 1);
        camp.sound(8);
        camp.rule(camp.kind(8, 0), 8, ANY, ANY);
        Check.lexeme(camp, 8);
        check.due("a lexeme of its own", camp.question(), 1);
        for (int cell = 1; cell < 8; cell++) {
            Check.exception(camp, 0, cell);
        }
        check.due("the other lexeme", camp.question(), 8);
        camp.except(0, 7, false);
        check.due("the last cell", camp.question(), 7);
    }

    private static void questionByFittingSets() {
        Fieldgrammar camp = campWithThreeRules();
        Check.lexeme(camp, 1);
        Check.word(camp, 0, 0, 0, 3);
        Check.word(camp, 0, 1, 0, 5);
        check.due("no set fits", camp.question(), -1);
        camp.forget(0);
        camp.forget(1);
        camp.turn(0, false);
        check.due("sets of rules that are off, too", camp.question(), 0);
    }
}
