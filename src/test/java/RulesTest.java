/** Promises 9 to 11: rule, turn, raise. */
public final class RulesTest {
    private static final Check check = new Check();
    private static final int ANY = Fieldgrammar.ANY;
    private static final int EDGE = Fieldgrammar.EDGE;

    public static void main(String[] args) {
        rule();
        ruleLimit();
        ruleIsLast();
        turn();
        raise();
        raiseChangesWords();
        check.close();
    }

    private static void rule() {
        Fieldgrammar camp = Check.camp(2);
        camp.kind(0, 0);
        camp.kind(1, 0);
        check.throwing("rule(2, 0, ANY, ANY)", Check.BOUNDS, () -> camp.rule(2, 0, ANY, ANY));
        check.throwing("rule(ANY, 0, ANY, ANY)", Check.BOUNDS, () -> camp.rule(ANY, 0, ANY, ANY));
        check.throwing("rule(EDGE, 0, ANY, ANY)", Check.BOUNDS, () -> camp.rule(EDGE, 0, ANY, ANY));
        check.throwing("rule(0, 0, -3, ANY)", Check.BOUNDS, () -> camp.rule(0, 0, -3, ANY));
        check.throwing("rule(0, 0, 2, ANY)", Check.BOUNDS, () -> camp.rule(0, 0, 2, ANY));
        check.throwing("rule(0, 0, ANY, -3)", Check.BOUNDS, () -> camp.rule(0, 0, ANY, -3));
        check.throwing("rule(0, 0, ANY, 2)", Check.BOUNDS, () -> camp.rule(0, 0, ANY, 2));
        check.throwing("rule(0, 64, ANY, ANY)", Check.ARGUMENT, () -> camp.rule(0, 64, ANY, ANY));
        check.throwing("rule(0, -1, ANY, ANY)", Check.ARGUMENT, () -> camp.rule(0, -1, ANY, ANY));
        check.throwing("rule(0, 64, ANY, 2)", Check.BOUNDS, () -> camp.rule(0, 64, ANY, 2));
        check.throwing("turn(0, true)", Check.BOUNDS, () -> camp.turn(0, true));
        check.due("rule(0, 63, EDGE, 1)", camp.rule(0, 63, EDGE, 1), 0);
        check.due("rule(1, 0, ANY, EDGE)", camp.rule(1, 0, ANY, EDGE), 1);
    }

    private static void ruleLimit() {
        Fieldgrammar camp = Check.camp(2);
        camp.kind(0, 0);
        for (int number = 0; number < 6; number++) {
            check.due("rule(0, 1, 0, 0)", camp.rule(0, 1, 0, 0), number);
        }
        check.throwing("rule, the 7th", Check.STATE, () -> camp.rule(0, 1, 0, 0));
        check.throwing("rule, the 7th, wrong turned", Check.ARGUMENT, () -> camp.rule(0, 64, 0, 0));
        check.throwing("rule, the 7th, no class", Check.BOUNDS, () -> camp.rule(1, 64, 0, 0));
        check.due("fitting()", camp.fitting(), 64);
    }

    /** A new rule is on and behind the others, also behind some that were raised. */
    private static void ruleIsLast() {
        Fieldgrammar camp = Check.camp(4);
        int all = camp.kind(0, 0);
        camp.rule(all, 1, ANY, ANY);
        camp.rule(all, 2, ANY, ANY);
        camp.raise(1);
        check.due("rule", camp.rule(all, 1, ANY, ANY), 2);
        check.due("turn(2, true)", camp.turn(2, true), false);
        check.due("raise(2)", camp.raise(2), 1);
    }

    private static void turn() {
        Fieldgrammar camp = Check.camp(2);
        int all = camp.kind(0, 0);
        Check.lexeme(camp, 0);
        camp.rule(all, 1, ANY, ANY);
        camp.rule(all, 1, ANY, ANY);
        check.due("turn(0, true)", camp.turn(0, true), false);
        check.due("both on", Check.spoken(camp, 0, 0), "0");
        check.due("turn(0, false)", camp.turn(0, false), true);
        check.due("one on", Check.spoken(camp, 0, 0), "1");
        check.due("turn(0, false) again", camp.turn(0, false), false);
        check.due("turn(1, false)", camp.turn(1, false), true);
        check.due("none on", Check.spoken(camp, 0, 0), "0");
        check.due("turn(0, true)", camp.turn(0, true), true);
        check.due("the other one on", Check.spoken(camp, 0, 0), "1");
        check.throwing("turn(2, true)", Check.BOUNDS, () -> camp.turn(2, true));
        check.throwing("turn(-1, false)", Check.BOUNDS, () -> camp.turn(-1, false));
    }

    private static void raise() {
        Fieldgrammar camp = Check.camp(1);
        int all = camp.kind(0, 0);
        camp.rule(all, 1, ANY, ANY);
        camp.rule(all, 1, ANY, ANY);
        camp.rule(all, 1, ANY, ANY);
        check.due("raise(0)", camp.raise(0), 0);
        check.due("raise(2)", camp.raise(2), 1);
        check.due("raise(1), now last", camp.raise(1), 1);
        check.due("raise(2), last again", camp.raise(2), 1);
        check.due("raise(2)", camp.raise(2), 0);
        check.due("raise(2), the first one", camp.raise(2), 0);
        check.due("raise(0)", camp.raise(0), 0);
        check.due("raise(1)", camp.raise(1), 1);
        check.throwing("raise(3)", Check.BOUNDS, () -> camp.raise(3));
        check.throwing("raise(-1)", Check.BOUNDS, () -> camp.raise(-1));
    }

    private static void raiseChangesWords() {
        Fieldgrammar camp = Check.camp(2);
        int one = camp.kind(1, 0);
        int all = camp.kind(0, 0);
        Check.lexeme(camp, 0, 1);
        camp.rule(all, 1, ANY, EDGE);
        camp.rule(one, 0, ANY, ANY);
        check.due("turned, then left out", Check.spoken(camp, 0, 0), "0 0");
        camp.raise(1);
        check.due("left out, then turned", Check.spoken(camp, 0, 0), "1");
    }
}
