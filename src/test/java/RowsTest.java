/** What "Terms" says of rules and of how they go over a row: its edges. */
public final class RowsTest {
    private static final Check check = new Check();
    private static final int ANY = Fieldgrammar.ANY;
    private static final int EDGE = Fieldgrammar.EDGE;
    private static final int NONE = Fieldgrammar.NONE;
    private static final int ALL = 0;
    private static final int ODD = 1;
    private static final int EVEN = 2;

    public static void main(String[] args) {
        target();
        turned();
        sides();
        sidesOfOneSound();
        isOnAtFirst();
        orderAtFirst();
        formAndEnding();
        eachRuleThatIsOn();
        inTheirOrder();
        once();
        firstToLast();
        metIfOfTheTarget();
        aheadAsItIsByThen();
        aheadOfThoseNotLeftOut();
        noneAhead();
        behindAsItWas();
        noneBehind();
        anyIsMetByNone();
        becomes();
        bothWays();
        noSuchSound();
        leftOut();
        allLeftOut();
        exceptions();
        exceptionsOfAnyLength();
        check.close();
    }

    /** Sounds 0 to 3, with the features of their numbers; the classes ALL, ODD and EVEN; and a lexeme. */
    private static Fieldgrammar camp(int... form) {
        Fieldgrammar camp = Check.camp(4);
        camp.kind(0, 0);
        camp.kind(1, 0);
        camp.kind(0, 1);
        Check.lexeme(camp, form);
        return camp;
    }

    private static String by(int target, int turned, int left, int right, int... form) {
        Fieldgrammar camp = camp(form);
        camp.rule(target, turned, left, right);
        return Check.spoken(camp, 0, 0);
    }

    private static void target() {
        check.term("a rule has a target, a class");
        check.due("all", by(ALL, 2, ANY, ANY, 0, 1, 2, 3), "2 3 0 1");
        check.due("the odd ones", by(ODD, 2, ANY, ANY, 0, 1, 2, 3), "0 3 2 1");
        check.due("the even ones", by(EVEN, 2, ANY, ANY, 0, 1, 2, 3), "2 1 0 3");
    }

    private static void turned() {
        check.term("a set of features that it turns");
        check.due("feature 0", by(ALL, 1, ANY, ANY, 0, 1, 2, 3), "1 0 3 2");
        check.due("feature 1", by(ALL, 2, ANY, ANY, 0, 1, 2, 3), "2 3 0 1");
        check.due("both", by(ALL, 3, ANY, ANY, 0, 1, 2, 3), "3 2 1 0");
    }

    /** Of three even sounds; one that is turned by feature 1 is even still. */
    private static void sides() {
        check.term("a left and a right, each a class, ANY or EDGE");
        check.due("class, class", by(ALL, 2, EVEN, EVEN, 0, 0, 0), "0 2 0");
        check.due("class, ANY", by(ALL, 2, EVEN, ANY, 0, 0, 0), "0 2 2");
        check.due("class, EDGE", by(ALL, 2, EVEN, EDGE, 0, 0, 0), "0 0 2");
        check.due("ANY, class", by(ALL, 2, ANY, EVEN, 0, 0, 0), "2 2 0");
        check.due("ANY, ANY", by(ALL, 2, ANY, ANY, 0, 0, 0), "2 2 2");
        check.due("ANY, EDGE", by(ALL, 2, ANY, EDGE, 0, 0, 0), "0 0 2");
        check.due("EDGE, class", by(ALL, 2, EDGE, EVEN, 0, 0, 0), "2 0 0");
        check.due("EDGE, ANY", by(ALL, 2, EDGE, ANY, 0, 0, 0), "2 0 0");
        check.due("EDGE, EDGE", by(ALL, 2, EDGE, EDGE, 0, 0, 0), "0 0 0");
        check.due("another class, ANY", by(ALL, 2, ODD, ANY, 0, 0, 0), "0 0 0");
        check.due("ANY, another class", by(ALL, 2, ANY, ODD, 0, 0, 0), "0 0 0");
    }

    private static void sidesOfOneSound() {
        check.term("each a class, ANY or EDGE");
        check.due("class, class", by(ALL, 2, ALL, ALL, 0), "0");
        check.due("class, ANY", by(ALL, 2, ALL, ANY, 0), "0");
        check.due("class, EDGE", by(ALL, 2, ALL, EDGE, 0), "0");
        check.due("ANY, class", by(ALL, 2, ANY, ALL, 0), "0");
        check.due("ANY, ANY", by(ALL, 2, ANY, ANY, 0), "2");
        check.due("ANY, EDGE", by(ALL, 2, ANY, EDGE, 0), "2");
        check.due("EDGE, class", by(ALL, 2, EDGE, ALL, 0), "0");
        check.due("EDGE, ANY", by(ALL, 2, EDGE, ANY, 0), "2");
        check.due("EDGE, EDGE", by(ALL, 2, EDGE, EDGE, 0), "2");
    }

    private static void isOnAtFirst() {
        check.term("and it is on, as at first, or off");
        for (int rule = 0; rule < 6; rule++) {
            Fieldgrammar camp = camp(0);
            for (int other = 0; other < rule; other++) {
                camp.turn(camp.rule(ALL, 1, ANY, ANY), false);
            }
            check.due("rule", camp.rule(ALL, 1, ANY, ANY), rule);
            check.due("on at first", Check.spoken(camp, 0, 0), "1");
            check.due("turn on", camp.turn(rule, true), false);
            check.due("turn off", camp.turn(rule, false), true);
            check.due("off", Check.spoken(camp, 0, 0), "0");
        }
    }

    /** Each rule turns what the one of the number ahead of it made, so that they must come in that order. */
    private static void orderAtFirst() {
        check.term("Rules are in an order, at first that of their numbers");
        Fieldgrammar camp = Check.camp(7);
        for (int sound = 0; sound < 6; sound++) {
            int kind = camp.kind(sound, 63 - sound);
            camp.rule(kind, sound ^ (sound + 1), ANY, ANY);
        }
        Check.lexeme(camp, 0, 3);
        check.due("by all six", Check.spoken(camp, 0, 0), "6 6");
        for (int rule = 0; rule < 6; rule++) {
            check.due("step of rule " + rule, camp.step(0, 0, rule), rule < 3 ? 1 : 2);
        }
    }

    private static void formAndEnding() {
        check.term("A word of a lexeme in a cell is derived so: the form of the lexeme and the ending of the cell,"
                + " one behind the other");
        Fieldgrammar camp = camp(0, 0, 0, 0, 0, 2);
        Check.ending(camp, 7, 1, 3);
        check.due("6 and none", Check.spoken(camp, 0, 0), "0 0 0 0 0 2");
        check.due("6 and 2", Check.spoken(camp, 0, 7), "0 0 0 0 0 2 1 3");
        camp.rule(EVEN, 0, ANY, ODD);
        check.due("by the ending behind the form", Check.spoken(camp, 0, 7), "0 0 0 0 0 1 3");
        camp.turn(0, false);
        camp.rule(ODD, 0, EVEN, ANY);
        check.due("by the form ahead of the ending", Check.spoken(camp, 0, 7), "0 0 0 0 0 2");
        camp.turn(1, false);
        camp.rule(ALL, 1, ANY, EDGE);
        check.due("the form has no edge there", Check.spoken(camp, 0, 7), "0 0 0 0 0 2 1 2");
    }

    private static void eachRuleThatIsOn() {
        check.term("are gone over by each rule that is on");
        Fieldgrammar camp = camp(0);
        camp.rule(ALL, 1, ANY, ANY);
        camp.rule(ALL, 2, ANY, ANY);
        check.due("by both", Check.spoken(camp, 0, 0), "3");
        camp.turn(0, false);
        check.due("by 1", Check.spoken(camp, 0, 0), "2");
        camp.turn(1, false);
        check.due("by none", Check.spoken(camp, 0, 0), "0");
        camp.turn(0, true);
        check.due("by 0", Check.spoken(camp, 0, 0), "1");
    }

    private static void inTheirOrder() {
        check.term("in their order");
        Fieldgrammar camp = camp(0, 1);
        camp.rule(EVEN, 1, ANY, ANY);
        camp.rule(ODD, 0, ANY, ANY);
        check.due("turned, then left out", Check.spoken(camp, 0, 0), "");
        camp.raise(1);
        check.due("left out, then turned", Check.spoken(camp, 0, 0), "1");
    }

    /** What a rule makes of a row could be met by it again. */
    private static void once() {
        check.term("A rule goes over a row once");
        check.due("turned, and not back", by(ALL, 1, ANY, ANY, 0, 1), "1 0");
        check.due("left out ahead of an odd one", by(EVEN, 0, ANY, ODD, 0, 0, 1), "0 1");
        check.due("left out ahead of the edge", by(ALL, 0, ANY, EDGE, 0, 0, 0), "0 0");
    }

    private static void firstToLast() {
        check.term("from its first sound to the last one");
        check.due("spreads from the first one", by(EVEN, 1, ODD, ANY, 1, 0, 0, 0), "1 1 1 1");
        check.due("the last one spreads not", by(EVEN, 1, ANY, ODD, 0, 0, 0, 1), "0 0 1 1");
        Fieldgrammar camp = camp(2, 2, 2, 2, 2, 2);
        Check.ending(camp, 0, 2, 2);
        camp.rule(EVEN, 1, ANY, ANY);
        check.due("all of 8", Check.spoken(camp, 0, 0), "3 3 3 3 3 3 3 3");
        check.due("step", camp.step(0, 0, 0), 8);
    }

    private static void metIfOfTheTarget() {
        check.term("a sound is met, if it is of the target");
        check.due("the odd ones", by(ODD, 0, ANY, ANY, 3, 2, 1, 0), "2 0");
        check.due("as it was: one turned is not met by its new features", by(EVEN, 1, ANY, ANY, 0, 0), "1 1");
    }

    private static void aheadAsItIsByThen() {
        check.term("and the sound ahead of it, as it is by then");
        check.due("met by one that was turned", by(EVEN, 1, ODD, ANY, 1, 0, 2), "1 1 3");
        check.due("not met by one that was turned", by(ODD, 1, ODD, ANY, 1, 1, 1, 1), "1 0 1 0");
    }

    private static void aheadOfThoseNotLeftOut() {
        check.term("(of those that are not left out), is of the left");
        check.due("one behind those left out", by(EVEN, 0, ODD, ANY, 1, 0, 2, 0, 3), "1 3");
        check.due("not one that is left out", by(ODD, 0, ODD, ANY, 1, 3, 1, 0, 1), "1 0 1");
        check.due("none of the left", by(EVEN, 0, ODD, ANY, 0, 2, 1), "0 2 1");
    }

    private static void noneAhead() {
        check.term("or there is none, if that is EDGE");
        check.due("the first one", by(ALL, 1, EDGE, ANY, 0, 0), "1 0");
        check.due("the first one, of which all ahead are left out", by(EVEN, 0, EDGE, ANY, 0, 2, 0, 1, 0), "1 0");
        check.due("all of them", by(ALL, 0, EDGE, ANY, 0, 1, 2, 3), "");
        check.due("not a class", by(ALL, 1, ALL, ANY, 0, 0), "0 1");
    }

    private static void behindAsItWas() {
        check.term("and the sound behind it, as it was, is of the right");
        check.due("one that is turned then", by(ALL, 1, ANY, ODD, 0, 1, 1), "1 0 1");
        check.due("one that is left out then", by(ALL, 0, ANY, EVEN, 1, 2, 0, 3), "0 3");
        check.due("one that would be of the right when turned", by(EVEN, 1, ANY, ODD, 0, 0, 1), "0 1 1");
    }

    private static void noneBehind() {
        check.term("or there is none, if that is EDGE");
        check.due("the last one", by(ALL, 1, ANY, EDGE, 0, 0), "0 1");
        check.due("not one ahead of one that is left out", by(ALL, 0, ANY, EDGE, 0, 1, 2), "0 1");
        check.due("not a class", by(ALL, 1, ANY, ALL, 0, 0), "1 0");
        Fieldgrammar camp = camp(0, 0, 0, 0, 0, 0);
        Check.ending(camp, 0, 0, 0);
        camp.rule(ALL, 1, ANY, EDGE);
        check.due("the last one of 8", Check.spoken(camp, 0, 0), "0 0 0 0 0 0 0 1");
        check.due("its step", camp.step(0, 0, 0), 1);
    }

    private static void anyIsMetByNone() {
        check.term("ANY is met by all, also by none");
        check.due("by each sound", by(EVEN, 0, ANY, ANY, 1, 0, 3, 2, 1), "1 3 1");
        check.due("by none ahead and behind", by(EVEN, 1, ANY, ANY, 0), "1");
        check.due("by none ahead", by(EVEN, 1, ANY, ODD, 0, 1), "1 1");
        check.due("by none behind", by(EVEN, 1, ODD, ANY, 1, 0), "1 1");
    }

    private static void becomes() {
        check.term("A sound that is met becomes the one with the same features, but for those that are turned");
        Fieldgrammar camp = new Fieldgrammar();
        camp.sound(32 + 8 + 1);
        camp.sound(8 + 2);
        camp.sound(32 + 8 + 2);
        camp.sound(32 + 2);
        camp.rule(camp.kind(0, 0), 1 + 2, ANY, ANY);
        check.due("features 5 and 3 are the same", Check.spoken(camp, Check.lexeme(camp, 0), 0), "2");
    }

    private static void bothWays() {
        check.term("these it has, if it had them not, and the other way round");
        for (int feature = 0; feature <= 5; feature++) {
            Fieldgrammar camp = new Fieldgrammar();
            camp.sound(0);
            camp.sound(1 << feature);
            camp.rule(camp.kind(0, 0), 1 << feature, ANY, ANY);
            check.due("feature " + feature, Check.spoken(camp, Check.lexeme(camp, 0, 1, 0), 0), "1 0 1");
        }
        check.due("of two, one had and one had not", by(ALL, 3, ANY, ANY, 1, 2), "2 1");
    }

    private static void noSuchSound() {
        check.term("if there is no such sound, it stays");
        Fieldgrammar camp = camp(0, 3, 0);
        camp.rule(ALL, 4, ANY, ANY);
        check.due("the word", Check.spoken(camp, 0, 0), "0 3 0");
        check.due("step(0, 0, 0)", camp.step(0, 0, 0), 0);
        camp.sound(7);
        check.due("when there is one", Check.spoken(camp, 0, 0), "0 4 0");
        check.due("step(0, 0, 0)", camp.step(0, 0, 0), 1);
        camp.rule(EVEN, 0, ALL, ANY);
        check.due("one that stayed is met by the next rule", Check.spoken(camp, 0, 0), "0 4");
    }

    private static void leftOut() {
        check.term("If the set that is turned is empty, a sound that is met is left out");
        check.due("in the middle", by(ODD, 0, ANY, ANY, 0, 1, 2), "0 2");
        check.due("first and last", by(ODD, 0, ANY, ANY, 1, 2, 3), "2");
        check.due("none", by(ODD, 0, ANY, ANY, 0, 2), "0 2");
    }

    private static void allLeftOut() {
        check.term("a sound that is met is left out");
        Fieldgrammar camp = camp(0, 1);
        Check.ending(camp, 0, 2, 3);
        camp.rule(ALL, 0, ANY, ANY);
        camp.rule(ALL, 1, EDGE, EDGE);
        check.due("length(0, 0)", camp.length(0, 0), 0);
        check.due("at(0, 0, 0)", camp.at(0, 0, 0), NONE);
        check.due("step(0, 0, 0)", camp.step(0, 0, 0), 4);
        check.due("step(0, 0, 1), over an empty row", camp.step(0, 0, 1), 0);
        camp.hear(0, 0, 0);
        check.due("an empty word fits", camp.ofWord(0, 4), 1);
        check.due("claims(0, true)", camp.claims(0, true), 1);
        check.due("claims(1, true)", camp.claims(1, true), 0);
    }

    private static void exceptions() {
        check.term("A lexeme can have an exception for a cell, a row of sounds: that is its word then,"
                + " whatever is derived");
        Fieldgrammar camp = camp(0, 0);
        Check.lexeme(camp, 2);
        Check.ending(camp, 3, 1);
        Check.exception(camp, 0, 3, 0, 1, 2);
        camp.rule(ALL, 0, ANY, ANY);
        check.due("whatever the rules leave out", Check.spoken(camp, 0, 3), "0 1 2");
        check.due("another cell's", Check.spoken(camp, 0, 2), "");
        check.due("another lexeme's", Check.spoken(camp, 1, 3), "");
        Check.draft(camp, 3).reform(0);
        Check.ending(camp, 3);
        check.due("whatever the form and the ending are", Check.spoken(camp, 0, 3), "0 1 2");
        camp.except(0, 3, false);
        camp.turn(0, false);
        check.due("when it is taken back", Check.spoken(camp, 0, 3), "3");
    }

    private static void exceptionsOfAnyLength() {
        check.term("an exception for a cell, a row of sounds");
        Fieldgrammar camp = camp(0, 0);
        Check.exception(camp, 0, 0);
        check.due("of none", camp.length(0, 0), 0);
        check.due("at(0, 0, 0)", camp.at(0, 0, 0), NONE);
        check.due("it is one", camp.except(0, 0, false), true);
        Check.exception(camp, 0, 7, 3, 2, 1, 0, 3, 2, 1, 0);
        check.due("of 8", Check.spoken(camp, 0, 7), "3 2 1 0 3 2 1 0");
    }
}
