/** Promises 19 to 21: length, at, step, and how a word is derived. */
public final class DerivationTest {
    private static final Check check = new Check();
    private static final int ANY = Fieldgrammar.ANY;
    private static final int EDGE = Fieldgrammar.EDGE;

    public static void main(String[] args) {
        length();
        at();
        step();
        stepCountsChangesAlone();
        stepOfRulesBehindOneAnother();
        leftIsAsItIsByThen();
        leftIsNotOneLeftOut();
        rightIsAsItWas();
        edges();
        classesAtTheEdge();
        turnsBothWays();
        laterSoundsAreFound();
        check.close();
    }

    private static Fieldgrammar merged() {
        Fieldgrammar camp = Check.camp(2);
        Check.lexeme(camp, 0);
        Check.lexeme(camp, 1);
        camp.merge(0, 1);
        return camp;
    }

    private static void length() {
        Fieldgrammar camp = Check.camp(2);
        camp.kind(1, 0);
        Check.lexeme(camp, 0, 1, 0);
        Check.ending(camp, 2, 1);
        check.due("length(0, 2)", camp.length(0, 2), 4);
        camp.rule(0, 0, ANY, ANY);
        check.due("length(0, 2), two left out", camp.length(0, 2), 2);
        Check.exception(camp, 0, 3, 1, 1, 1, 1, 1, 1, 1, 1);
        check.due("length(0, 3), exception", camp.length(0, 3), 8);
        Check.exception(camp, 0, 3);
        check.due("length(0, 3), empty exception", camp.length(0, 3), 0);
        check.throwing("length(1, 0)", Check.BOUNDS, () -> camp.length(1, 0));
        check.throwing("length(-1, 0)", Check.BOUNDS, () -> camp.length(-1, 0));
        check.throwing("length(0, 8)", Check.BOUNDS, () -> camp.length(0, 8));
        check.throwing("length(0, -1)", Check.BOUNDS, () -> camp.length(0, -1));
        check.throwing("length(0, 0), gone", Check.BOUNDS, () -> merged().length(0, 0));
    }

    private static void at() {
        Fieldgrammar camp = Check.camp(16);
        Check.lexeme(camp, 15, 0, 7);
        Check.ending(camp, 1, 4, 15);
        check.due("at(0, 1, 0)", camp.at(0, 1, 0), 15);
        check.due("at(0, 1, 3)", camp.at(0, 1, 3), 4);
        check.due("at(0, 1, 4)", camp.at(0, 1, 4), 15);
        check.due("at(0, 1, 5)", camp.at(0, 1, 5), -1);
        check.due("at(0, 0, 3)", camp.at(0, 0, 3), -1);
        check.due("at(0, 0, 8)", camp.at(0, 0, 8), -1);
        check.due("at(0, 0, 13)", camp.at(0, 0, 13), -1);
        check.due("at(0, 0, MAX)", camp.at(0, 0, Integer.MAX_VALUE), -1);
        Check.exception(camp, 0, 2, 3, 15, 3, 15, 3, 15, 3, 14);
        check.due("at(0, 2, 7), exception", camp.at(0, 2, 7), 14);
        check.due("at(0, 2, 8), exception", camp.at(0, 2, 8), -1);
        check.throwing("at(0, 0, -1)", Check.BOUNDS, () -> camp.at(0, 0, -1));
        check.throwing("at(0, 0, MIN)", Check.BOUNDS, () -> camp.at(0, 0, Integer.MIN_VALUE));
        check.throwing("at(0, 8, 0)", Check.BOUNDS, () -> camp.at(0, 8, 0));
        check.throwing("at(0, -1, 0)", Check.BOUNDS, () -> camp.at(0, -1, 0));
        check.throwing("at(1, 0, 0)", Check.BOUNDS, () -> camp.at(1, 0, 0));
        check.throwing("at(0, 0, 0), gone", Check.BOUNDS, () -> merged().at(0, 0, 0));
    }

    private static void step() {
        Fieldgrammar camp = Check.camp(2);
        camp.kind(0, 1);
        Check.lexeme(camp, 0, 1, 0);
        Check.ending(camp, 1, 0, 0);
        camp.rule(0, 1, ANY, ANY);
        camp.rule(0, 0, ANY, ANY);
        check.due("step(0, 1, 0)", camp.step(0, 1, 0), 4);
        check.due("step(0, 0, 0)", camp.step(0, 0, 0), 2);
        check.due("step(0, 1, 1), nothing left for it", camp.step(0, 1, 1), 0);
        Check.exception(camp, 0, 1, 1);
        check.due("step(0, 1, 0) with an exception", camp.step(0, 1, 0), 4);
        camp.turn(0, false);
        check.due("step(0, 1, 0), off", camp.step(0, 1, 0), 0);
        check.due("step(0, 1, 1), leaves out", camp.step(0, 1, 1), 4);
        check.throwing("step(0, 0, 2)", Check.BOUNDS, () -> camp.step(0, 0, 2));
        check.throwing("step(0, 0, -1)", Check.BOUNDS, () -> camp.step(0, 0, -1));
        check.throwing("step(0, 8, 0)", Check.BOUNDS, () -> camp.step(0, 8, 0));
        check.throwing("step(1, 0, 0)", Check.BOUNDS, () -> camp.step(1, 0, 0));
        check.throwing("step(0, 0, 0), gone", Check.BOUNDS, () -> merged().step(0, 0, 0));
    }

    /** A sound that would become one that there is not stays, and is not counted. */
    private static void stepCountsChangesAlone() {
        Fieldgrammar camp = Check.camp(3);
        int all = camp.kind(0, 0);
        Check.lexeme(camp, 0, 1, 2, 1);
        camp.rule(all, 2, ANY, ANY);
        check.due("0 and 2 turned, 1 stays", Check.spoken(camp, 0, 0), "2 1 0 1");
        check.due("step(0, 0, 0)", camp.step(0, 0, 0), 2);
    }

    private static void stepOfRulesBehindOneAnother() {
        Fieldgrammar camp = Check.camp(2);
        int zero = camp.kind(0, 1);
        int one = camp.kind(1, 0);
        Check.lexeme(camp, 0, 0, 1);
        camp.rule(zero, 1, ANY, ANY);
        camp.rule(one, 0, ANY, one);
        check.due("step of the first", camp.step(0, 0, 0), 2);
        check.due("step of the second", camp.step(0, 0, 1), 2);
        camp.raise(1);
        check.due("step of the one that is second now", camp.step(0, 0, 0), 2);
        check.due("step of the one that is first now", camp.step(0, 0, 1), 0);
    }

    private static void leftIsAsItIsByThen() {
        Fieldgrammar camp = Check.camp(2);
        int all = camp.kind(0, 0);
        int one = camp.kind(1, 0);
        Check.lexeme(camp, 1, 0, 0, 0);
        camp.rule(camp.kind(0, 1), 1, one, ANY);
        check.due("spreads to the right", Check.spoken(camp, 0, 0), "1 1 1 1");
        camp.turn(0, false);
        camp.rule(all, 1, one, ANY);
        check.due("each by the one ahead, turned", Check.spoken(camp, 0, 0), "1 1 1 1");
        Check.lexeme(camp, 1, 1, 1, 1);
        check.due("turned off by turns", Check.spoken(camp, 1, 0), "1 0 1 0");
    }

    private static void leftIsNotOneLeftOut() {
        Fieldgrammar camp = Check.camp(3);
        int one = camp.kind(1, 0);
        int zero = camp.kind(0, 3);
        Check.lexeme(camp, 1, 0, 0, 2, 0);
        camp.rule(zero, 0, one, ANY);
        check.due("all zeros behind a one", Check.spoken(camp, 0, 0), "1 2 0");
        Check.lexeme(camp, 0, 0, 1, 0);
        camp.turn(0, false);
        camp.rule(zero, 0, EDGE, ANY);
        check.due("all zeros in front", Check.spoken(camp, 1, 0), "1 0");
        check.due("step(1, 0, 1)", camp.step(1, 0, 1), 2);
    }

    private static void rightIsAsItWas() {
        Fieldgrammar camp = Check.camp(2);
        int zero = camp.kind(0, 1);
        int one = camp.kind(1, 0);
        Check.lexeme(camp, 0, 0, 0, 1);
        camp.rule(zero, 1, ANY, one);
        check.due("only the last zero", Check.spoken(camp, 0, 0), "0 0 1 1");
        camp.turn(0, false);
        camp.rule(zero, 0, ANY, zero);
        check.due("a zero ahead of a zero that goes itself", Check.spoken(camp, 0, 0), "0 1");
        check.due("step(0, 0, 1)", camp.step(0, 0, 1), 2);
    }

    private static void edges() {
        Fieldgrammar camp = Check.camp(2);
        int zero = camp.kind(0, 1);
        Check.lexeme(camp, 0, 0, 0);
        Check.lexeme(camp, 0);
        Check.ending(camp, 1, 0);
        camp.rule(zero, 1, ANY, EDGE);
        check.due("the last one", Check.spoken(camp, 0, 0), "0 0 1");
        check.due("the last one with an ending", Check.spoken(camp, 0, 1), "0 0 0 1");
        camp.turn(0, false);
        camp.rule(zero, 1, EDGE, ANY);
        check.due("the first one", Check.spoken(camp, 0, 0), "1 0 0");
        camp.turn(1, false);
        camp.rule(zero, 1, EDGE, EDGE);
        check.due("none alone", Check.spoken(camp, 0, 0), "0 0 0");
        check.due("one alone", Check.spoken(camp, 1, 0), "1");
        check.due("not alone with its ending", Check.spoken(camp, 1, 1), "0 0");
    }

    private static void classesAtTheEdge() {
        Fieldgrammar camp = Check.camp(2);
        int all = camp.kind(0, 0);
        Check.lexeme(camp, 0, 0, 0);
        camp.rule(all, 1, all, ANY);
        check.due("no class ahead of the first", Check.spoken(camp, 0, 0), "0 1 1");
        camp.turn(0, false);
        camp.rule(all, 1, ANY, all);
        check.due("no class behind the last", Check.spoken(camp, 0, 0), "1 1 0");
        camp.turn(1, false);
        camp.rule(all, 1, all, all);
        check.due("between two", Check.spoken(camp, 0, 0), "0 1 0");
        camp.turn(2, false);
        camp.rule(all, 1, ANY, ANY);
        check.due("ANY is met by none too", Check.spoken(camp, 0, 0), "1 1 1");
    }

    private static void turnsBothWays() {
        Fieldgrammar camp = new Fieldgrammar();
        camp.sound(32 + 2);
        camp.sound(32 + 1);
        camp.sound(0);
        camp.sound(3);
        int all = camp.kind(0, 0);
        camp.rule(all, 3, ANY, ANY);
        Check.lexeme(camp, 0, 1, 2, 3);
        check.due("3 turned", Check.spoken(camp, 0, 0), "1 0 3 2");
        check.due("step", camp.step(0, 0, 0), 4);
    }

    private static void laterSoundsAreFound() {
        Fieldgrammar camp = Check.camp(1);
        camp.rule(camp.kind(0, 0), 63, ANY, ANY);
        Check.lexeme(camp, 0);
        check.due("no such sound", Check.spoken(camp, 0, 0), "0");
        camp.sound(63);
        check.due("there is one now", Check.spoken(camp, 0, 0), "1");
    }
}
