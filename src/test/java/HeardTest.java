/** What "Terms" says of words that were heard, of sets of rules, the question and pairs: its edges. */
public final class HeardTest {
    private static final Check check = new Check();
    private static final int ANY = Fieldgrammar.ANY;
    private static final int EDGE = Fieldgrammar.EDGE;
    private static final int NONE = Fieldgrammar.NONE;

    public static void main(String[] args) {
        fits();
        fitsByTheRulesThatAreOn();
        supports();
        supportsIfItTurnedOne();
        supportsOfNoException();
        contradicts();
        contradictsIfItWouldFit();
        setsOfAllRules();
        setsByAllWords();
        setsInTheOrder();
        question();
        questionWithoutException();
        questionOfNoWord();
        questionByFittingSets();
        unlikeWords();
        theMost();
        atLeastTwo();
        theLowest();
        pairs();
        pairsOfUnlikeLexemes();
        pairsAsLongAsOneAnother();
        pairsAtJustOnePlace();
        check.close();
    }

    /** Sounds 0 to 7, with the features of their numbers; class 0 of all; and lexeme 0 of the sound 0. */
    private static Fieldgrammar camp() {
        Fieldgrammar camp = Check.camp(8);
        camp.kind(0, 0);
        Check.lexeme(camp, 0);
        return camp;
    }

    /** As camp(), with rules that turn feature 0, 1 and 2 of all sounds. */
    private static Fieldgrammar campWithRules() {
        Fieldgrammar camp = camp();
        camp.rule(0, 1, ANY, ANY);
        camp.rule(0, 2, ANY, ANY);
        camp.rule(0, 4, ANY, ANY);
        return camp;
    }

    private static int fitOf(Fieldgrammar camp, int cell, int... form) {
        return camp.ofWord(Check.word(camp, 0, cell, 0, form), 4);
    }

    private static void fits() {
        check.term("It fits, if that is the word of its lexeme in its cell");
        Fieldgrammar camp = camp();
        Check.lexeme(camp, 1);
        Check.ending(camp, 1, 2);
        check.due("the word", fitOf(camp, 0, 0), 1);
        check.due("longer", fitOf(camp, 0, 0, 0), 0);
        check.due("empty", fitOf(camp, 0), 0);
        check.due("another sound", fitOf(camp, 0, 1), 0);
        check.due("that of another cell", fitOf(camp, 0, 0, 2), 0);
        check.due("in that cell", fitOf(camp, 1, 0, 2), 1);
        check.due("shorter", fitOf(camp, 1, 0), 0);
        Check.exception(camp, 0, 1, 5);
        check.due("that of an exception", fitOf(camp, 1, 5), 1);
        check.due("the one without the exception", fitOf(camp, 1, 0, 2), 0);
        check.due("the one that was heard ahead of it", camp.ofWord(5, 4), 0);
    }

    private static void fitsByTheRulesThatAreOn() {
        check.term("if that is the word of its lexeme in its cell");
        Fieldgrammar camp = campWithRules();
        check.due("by all rules", fitOf(camp, 0, 7), 1);
        camp.turn(1, false);
        check.due("by two", fitOf(camp, 0, 5), 1);
        check.due("the first one fits no more", camp.ofWord(0, 4), 0);
    }

    private static void supports() {
        check.term("A word that fits");
        Fieldgrammar camp = campWithRules();
        Check.word(camp, 0, 0, 0, 6);
        check.due("one that does not", camp.claims(0, true), 0);
        Check.word(camp, 0, 0, 0, 7);
        check.due("one that does", camp.claims(0, true), 1);
        Check.word(camp, 0, 0, 0, 7);
        check.due("two alike", camp.claims(0, true), 2);
        camp.forget(1);
        check.due("one forgotten", camp.claims(0, true), 1);
    }

    private static void supportsIfItTurnedOne() {
        check.term("and in the derivation of which the rule turned or left out at least one sound supports the rule");
        Fieldgrammar camp = camp();
        int two = camp.kind(2, 0);
        int five = camp.kind(5, 0);
        camp.rule(two, 1, ANY, ANY);
        camp.rule(five, 0, ANY, ANY);
        camp.rule(0, 8, ANY, ANY);
        Check.draft(camp, 0, 4).reform(0);
        Check.ending(camp, 1, 2);
        Check.ending(camp, 2, 5);
        Check.ending(camp, 3, 2, 2);
        check.due("it fits", fitOf(camp, 0, 0, 4), 1);
        check.due("turned none", camp.claims(0, true), 0);
        check.due("it fits", fitOf(camp, 1, 0, 4, 3), 1);
        check.due("turned just one", camp.claims(0, true), 1);
        check.due("left none out", camp.claims(1, true), 0);
        check.due("it fits", fitOf(camp, 2, 0, 4), 1);
        check.due("left just one out", camp.claims(1, true), 1);
        check.due("it fits", fitOf(camp, 3, 0, 4, 3, 3), 1);
        check.due("turned two, and is one word", camp.claims(0, true), 2);
        check.due("those met by rule 2 stayed", camp.claims(2, true), 0);
    }

    private static void supportsOfNoException() {
        check.term("is of no exception");
        Fieldgrammar camp = campWithRules();
        Check.word(camp, 0, 0, 0, 7);
        Check.word(camp, 0, 1, 0, 7);
        check.due("two words", camp.claims(0, true), 2);
        Check.exception(camp, 0, 0, 7);
        check.due("one is of an exception, and fits", camp.ofWord(0, 4), 1);
        check.due("the other one supports", camp.claims(0, true), 1);
        camp.except(0, 0, false);
        check.due("two words again", camp.claims(0, true), 2);
    }

    private static void contradicts() {
        check.term("A word that does not fit");
        Fieldgrammar camp = camp();
        camp.rule(camp.kind(4, 0), 0, ANY, ANY);
        check.due("it fits, and would without rule 0", fitOf(camp, 0, 0), 1);
        check.due("claims(0, false)", camp.claims(0, false), 0);
    }

    private static void contradictsIfItWouldFit() {
        check.term("and would, if the rule were off, contradicts it");
        Fieldgrammar camp = campWithRules();
        Check.word(camp, 0, 0, 0, 6);
        check.due("without rule 0", camp.claims(0, false), 1);
        check.due("not without rule 1", camp.claims(1, false), 0);
        Check.word(camp, 0, 0, 0, 4);
        check.due("without both, not without one", camp.claims(0, false), 1);
        check.due("without both, not without one", camp.claims(1, false), 0);
        Check.exception(camp, 0, 0, 1);
        check.due("of an exception it would not", camp.claims(0, false), 0);
        camp.except(0, 0, false);
        camp.turn(0, false);
        check.due("without a rule that is off", camp.claims(0, false), 0);
        check.due("without rule 1, the other one", camp.claims(1, false), 1);
    }

    private static void setsOfAllRules() {
        check.term("A set of rules, of all that there are, on or off");
        Fieldgrammar camp = camp();
        check.due("of no rule, the empty set", camp.fitting(), 1);
        for (int rule = 0; rule < 6; rule++) {
            camp.rule(0, 8 << (rule & 1), ANY, ANY);
            camp.turn(rule, rule % 2 == 0);
            check.due("of " + rule + " rules and one", camp.fitting(), 2 << rule);
        }
    }

    private static void setsByAllWords() {
        check.term("fits, if all words that are of no exception would fit with just these on");
        Fieldgrammar camp = campWithRules();
        check.due("no words", camp.fitting(), 8);
        Check.word(camp, 0, 0, 0, 2);
        check.due("rule 1 alone", camp.fitting(), 1);
        check.due("its bits", camp.smallest(), 2);
        Check.word(camp, 0, 1, 0, 4);
        check.due("a word that wants rule 2 alone", camp.fitting(), 0);
        check.due("its bits", camp.smallest(), NONE);
        Check.exception(camp, 0, 1, 6);
        check.due("that word is of an exception, and does not fit", camp.fitting(), 1);
        camp.except(0, 1, false);
        camp.forget(1);
        check.due("that word is forgotten", camp.fitting(), 1);
        Check.exception(camp, 0, 0, 2);
        check.due("all words are of exceptions", camp.fitting(), 8);
    }

    private static void setsInTheOrder() {
        check.term("in the order");
        Fieldgrammar camp = camp();
        camp.rule(0, 1, ANY, EDGE);
        camp.rule(camp.kind(1, 0), 0, ANY, ANY);
        Check.word(camp, 0, 0, 0);
        check.due("turned, then left out", camp.fitting(), 1);
        camp.raise(1);
        check.due("the other way round", camp.fitting(), 0);
    }

    private static void question() {
        check.term("The question is a lexeme and a cell");
        Fieldgrammar camp = campWithRules();
        check.due("a lexeme and its cell", camp.question(), 0);
        Fieldgrammar none = Check.camp(2);
        none.rule(none.kind(0, 0), 1, ANY, ANY);
        check.due("no lexeme", none.question(), NONE);
    }

    private static void questionWithoutException() {
        check.term("without exception");
        Fieldgrammar camp = campWithRules();
        for (int cell = 0; cell < 8; cell++) {
            check.due("the first cell without one", camp.question(), cell);
            Check.exception(camp, 0, cell, 1);
        }
        check.due("an exception in each cell", camp.question(), NONE);
    }

    private static void questionOfNoWord() {
        check.term("in which no word of that lexeme was heard");
        Fieldgrammar camp = campWithRules();
        camp.rule(0, 8, ANY, ANY);
        Check.lexeme(camp, 1);
        Check.ending(camp, 7, 0);
        camp.rule(0, 1, 0, EDGE);
        Check.word(camp, 0, 0, 3, 7);
        check.due("another cell is left", camp.question(), 7);
        Check.word(camp, 0, 7, 0, 7, 7);
        check.due("all is known", camp.question(), NONE);
        camp.forget(1);
        check.due("the word is forgotten", camp.question(), 7);
        Check.word(camp, 1, 7, 0, 6, 7);
        check.due("all is known by a word of the other lexeme", camp.question(), NONE);
        camp.forget(2);
        Check.exception(camp, 0, 7, 1);
        check.due("the other lexeme", camp.question(), 8 + 7);
    }

    private static void questionByFittingSets() {
        check.term("by the sets of rules that fit");
        Fieldgrammar camp = campWithRules();
        camp.turn(0, false);
        camp.turn(1, false);
        camp.turn(2, false);
        check.due("of all rules, also those that are off", camp.question(), 0);
        Check.word(camp, 0, 0, 0, 5);
        check.due("one set fits", camp.question(), NONE);
        Check.draft(camp, 5, 5).correct(0);
        check.due("no set fits", camp.question(), NONE);
    }

    private static void unlikeWords() {
        check.term("there are some unlike words for it");
        Fieldgrammar camp = camp();
        camp.rule(0, 1, ANY, ANY);
        camp.rule(0, 1, ANY, ANY);
        camp.rule(0, 1, ANY, ANY);
        Check.lexeme(camp, 2);
        Check.ending(camp, 5, 0);
        camp.rule(camp.kind(0, 63), 0, EDGE, EDGE);
        check.due("two words by 16 sets, none of cell 5", camp.question(), 0);
        camp.rule(0, 2, 0, EDGE);
        check.due("four words of cell 5", camp.question(), 5);
    }

    private static void theMost() {
        check.term("it is the one with the most of these");
        Fieldgrammar camp = campWithRules();
        camp.rule(0, 1, 0, ANY);
        Check.ending(camp, 6, 0);
        Check.lexeme(camp, 0, 0);
        check.due("16 of each cell with two sounds", camp.question(), 6);
        Check.exception(camp, 0, 6, 0);
        check.due("also of the other lexeme", camp.question(), 8);
    }

    private static void atLeastTwo() {
        check.term("at least 2");
        Fieldgrammar camp = camp();
        camp.rule(camp.kind(0, 1), 1, EDGE, ANY);
        check.due("just two", camp.question(), 0);
        Check.draft(camp, 1).reform(0);
        check.due("just one, by two sets", camp.question(), NONE);
        check.due("two sets", camp.fitting(), 2);
        Check.ending(camp, 7, 0);
        check.due("just one in each cell", camp.question(), NONE);
    }

    private static void theLowest() {
        check.term("of several that of the lowest lexeme, of these that of the lowest cell");
        Fieldgrammar camp = campWithRules();
        Check.lexeme(camp, 7);
        check.due("16 cells alike", camp.question(), 0);
        Check.exception(camp, 0, 0, 0);
        check.due("cell 1 of lexeme 0, not 0 of 1", camp.question(), 1);
        for (int cell = 1; cell < 7; cell++) {
            Check.exception(camp, 0, cell, 0);
        }
        check.due("cell 7 of lexeme 0", camp.question(), 7);
        Check.exception(camp, 0, 7, 0);
        check.due("cell 0 of lexeme 1", camp.question(), 8);
    }

    private static void pairs() {
        check.term("Two words that were heard");
        Fieldgrammar camp = Check.campWithThree();
        Check.word(camp, 0, 0, 0, 3, 0);
        check.due("one word", camp.pairs(0, 1), 0);
        Check.word(camp, 1, 7, 3, 3, 1);
        check.due("two, of unlike cells and speakers", camp.pairs(0, 1), 1);
        Check.word(camp, 1, 0, 0, 3, 1);
        check.due("three are two pairs", camp.pairs(0, 1), 2);
        Check.word(camp, 2, 0, 0, 3, 0);
        check.due("four are four pairs", camp.pairs(0, 1), 4);
        camp.forget(0);
        check.due("one forgotten", camp.pairs(0, 1), 2);
    }

    private static void pairsOfUnlikeLexemes() {
        check.term("of unlike lexemes");
        Fieldgrammar camp = Check.campWithThree();
        Check.word(camp, 0, 0, 0, 0);
        Check.word(camp, 0, 1, 1, 1);
        check.due("of one lexeme", camp.pairs(0, 1), 0);
        camp.split(0, 2);
        check.due("of two", camp.pairs(0, 1), 1);
        camp.merge(0, 3);
        check.due("merged", camp.pairs(0, 1), 0);
    }

    private static void pairsAsLongAsOneAnother() {
        check.term("and as long as one another");
        Fieldgrammar camp = Check.campWithThree();
        Check.word(camp, 0, 0, 0, 0, 2);
        Check.word(camp, 1, 0, 0, 1);
        check.due("shorter", camp.pairs(0, 1), 0);
        Check.word(camp, 1, 0, 0, 1, 2, 2);
        check.due("longer", camp.pairs(0, 1), 0);
        Check.word(camp, 1, 0, 0, 0);
        check.due("shorter by one that is the only unlike one", camp.pairs(0, 2), 0);
        Check.word(camp, 1, 0, 0, 1, 2);
        check.due("as long", camp.pairs(0, 1), 1);
        Check.word(camp, 1, 0, 0);
        Check.word(camp, 2, 0, 0);
        check.due("empty ones", camp.pairs(0, 1), 1);
    }

    private static void pairsAtJustOnePlace() {
        check.term("with unlike sounds at just one place, are a pair that proves the contrast of these two sounds");
        Fieldgrammar camp = Check.campWithThree();
        Check.word(camp, 0, 0, 0, 0, 2, 2, 2, 2, 2, 2, 0);
        Check.word(camp, 1, 0, 0, 1, 2, 2, 2, 2, 2, 2, 0);
        check.due("the first place", camp.pairs(0, 1), 1);
        check.due("the other way round", camp.pairs(1, 0), 1);
        check.due("other sounds", camp.pairs(0, 2), 0);
        check.due("other sounds", camp.pairs(1, 2), 0);
        Check.draft(camp, 0, 2, 2, 2, 2, 2, 2, 1).correct(1);
        check.due("the last place", camp.pairs(0, 1), 1);
        Check.draft(camp, 1, 2, 2, 2, 2, 2, 2, 1).correct(1);
        check.due("two places, both of these", camp.pairs(0, 1), 0);
        Check.draft(camp, 0, 3, 2, 2, 2, 2, 2, 1).correct(1);
        check.due("two places, one of these", camp.pairs(0, 1), 0);
        Check.draft(camp, 0, 2, 2, 2, 2, 2, 2, 0).correct(1);
        check.due("no place", camp.pairs(0, 1), 0);
    }
}
