/** Promises 22 to 24: ofWord, misfit, claims. */
public final class ClaimsTest {
    private static final Check check = new Check();
    private static final int ANY = Fieldgrammar.ANY;
    private static final int EDGE = Fieldgrammar.EDGE;

    public static void main(String[] args) {
        ofWord();
        misfit();
        misfitOfExceptions();
        claims();
        claimsByRulesThatCancel();
        claimsOfExceptions();
        claimsThrow();
        check.close();
    }

    /** Rule 0 turns a last 0 to 1; rule 1 leaves a first 2 out. */
    private static Fieldgrammar campWithRules() {
        Fieldgrammar camp = Check.camp(3);
        camp.rule(camp.kind(0, 3), 1, ANY, EDGE);
        camp.rule(camp.kind(2, 0), 0, EDGE, ANY);
        Check.lexeme(camp, 2, 0);
        Check.lexeme(camp, 1);
        return camp;
    }

    private static void ofWord() {
        Fieldgrammar camp = campWithRules();
        Check.word(camp, 0, 3, 2, 1);
        Check.word(camp, 1, 0, 0, 0, 1);
        check.due("lexeme", camp.ofWord(0, 0), 0);
        check.due("cell", camp.ofWord(0, 1), 3);
        check.due("speaker", camp.ofWord(0, 2), 2);
        check.due("length", camp.ofWord(0, 3), 1);
        check.due("fits", camp.ofWord(0, 4), 1);
        check.due("lexeme", camp.ofWord(1, 0), 1);
        check.due("length", camp.ofWord(1, 3), 2);
        check.due("does not fit", camp.ofWord(1, 4), 0);
        camp.turn(0, false);
        check.due("does not fit without the rule", camp.ofWord(0, 4), 0);
        check.throwing("ofWord(0, 5)", Check.ARGUMENT, () -> camp.ofWord(0, 5));
        check.throwing("ofWord(0, -1)", Check.ARGUMENT, () -> camp.ofWord(0, -1));
        check.throwing("ofWord(2, 5)", Check.BOUNDS, () -> camp.ofWord(2, 5));
        check.throwing("ofWord(-1, 0)", Check.BOUNDS, () -> camp.ofWord(-1, 0));
        camp.forget(0);
        check.throwing("ofWord(0, 5), forgotten", Check.BOUNDS, () -> camp.ofWord(0, 5));
    }

    private static void misfit() {
        Fieldgrammar camp = campWithRules();
        Check.word(camp, 0, 0, 0, 2, 0);
        Check.word(camp, 0, 0, 1, 1);
        Check.word(camp, 0, 0, 2, 2, 1);
        Check.word(camp, 1, 0, 2, 1, 1);
        check.due("misfit(0)", camp.misfit(0), 0);
        check.due("misfit(1)", camp.misfit(1), 2);
        check.due("misfit(2)", camp.misfit(2), 3);
        check.due("misfit(3)", camp.misfit(3), -1);
        check.due("misfit(MAX)", camp.misfit(Integer.MAX_VALUE), -1);
        check.throwing("misfit(-1)", Check.BOUNDS, () -> camp.misfit(-1));
        camp.forget(2);
        check.due("misfit(1), one forgotten", camp.misfit(1), 3);
        camp.turn(0, false);
        camp.turn(1, false);
        check.due("misfit(0), no rules", camp.misfit(0), 1);
    }

    private static void misfitOfExceptions() {
        Fieldgrammar camp = campWithRules();
        Check.word(camp, 0, 0, 0, 1);
        Check.word(camp, 0, 0, 1, 2, 2);
        Check.exception(camp, 0, 0, 2, 2);
        check.due("misfit(0)", camp.misfit(0), 0);
        check.due("misfit(1)", camp.misfit(1), -1);
    }

    private static void claims() {
        Fieldgrammar camp = campWithRules();
        Check.word(camp, 0, 0, 0, 1);
        Check.word(camp, 0, 0, 1, 1);
        Check.word(camp, 0, 0, 2, 2, 1);
        Check.word(camp, 0, 0, 3, 0);
        Check.word(camp, 0, 0, 3, 2, 0);
        Check.word(camp, 1, 0, 3, 1);
        check.due("supports of 0", camp.claims(0, true), 2);
        check.due("contradictions of 0", camp.claims(0, false), 1);
        check.due("supports of 1", camp.claims(1, true), 2);
        check.due("contradictions of 1", camp.claims(1, false), 1);
        camp.turn(0, false);
        check.due("supports of 0, off", camp.claims(0, true), 0);
        check.due("contradictions of 0, off", camp.claims(0, false), 0);
        check.due("supports of 1, 0 off", camp.claims(1, true), 1);
        check.due("contradictions of 1, 0 off", camp.claims(1, false), 1);
        camp.forget(3);
        camp.forget(4);
        check.due("supports of 1, forgotten", camp.claims(1, true), 0);
        check.due("contradictions of 1, forgotten", camp.claims(1, false), 0);
    }

    /** Two rules that turn and turn back: both are supported, though the word is as without both. */
    private static void claimsByRulesThatCancel() {
        Fieldgrammar camp = Check.camp(2);
        int all = camp.kind(0, 0);
        Check.lexeme(camp, 0);
        camp.rule(all, 1, ANY, ANY);
        camp.rule(all, 1, ANY, ANY);
        camp.rule(all, 2, ANY, ANY);
        Check.word(camp, 0, 0, 0, 0);
        Check.word(camp, 0, 0, 0, 1);
        check.due("supports of 0", camp.claims(0, true), 1);
        check.due("supports of 1", camp.claims(1, true), 1);
        check.due("supports of one that turns to no sound", camp.claims(2, true), 0);
        check.due("contradictions of 0", camp.claims(0, false), 1);
        check.due("contradictions of 1", camp.claims(1, false), 1);
        check.due("contradictions of 2", camp.claims(2, false), 0);
    }

    private static void claimsOfExceptions() {
        Fieldgrammar camp = campWithRules();
        Check.word(camp, 0, 0, 0, 1);
        Check.word(camp, 0, 0, 1, 0);
        Check.exception(camp, 0, 0, 1);
        check.due("it fits", camp.ofWord(0, 4), 1);
        check.due("supports of 0", camp.claims(0, true), 0);
        check.due("contradictions of 0", camp.claims(0, false), 0);
        camp.except(0, 0, false);
        check.due("supports of 0, taken back", camp.claims(0, true), 1);
        check.due("contradictions of 0, taken back", camp.claims(0, false), 1);
    }

    private static void claimsThrow() {
        Fieldgrammar camp = campWithRules();
        check.throwing("claims(2, true)", Check.BOUNDS, () -> camp.claims(2, true));
        check.throwing("claims(2, false)", Check.BOUNDS, () -> camp.claims(2, false));
        check.throwing("claims(-1, true)", Check.BOUNDS, () -> camp.claims(-1, true));
    }
}
