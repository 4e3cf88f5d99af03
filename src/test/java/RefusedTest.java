/**
 * The "Throws" clauses of promises 2 to 30, a sentence at a time: each refused call throws what the document says, and
 * changes nothing. What the camp tells behind it is held to what a camp tells in which the call was not made.
 */
public final class RefusedTest {
    private static final Check check = new Check();
    private static final int ANY = Fieldgrammar.ANY;
    private static final int EDGE = Fieldgrammar.EDGE;
    private static final int LEAST = Integer.MIN_VALUE;
    private static final int GREATEST = Integer.MAX_VALUE;
    // Numbers just outside those of some(), or, the last two, of lexemes that are gone there.
    private static final int[] NO_LEXEME = {LEAST, -1, 6, 16, GREATEST, 1, 4};
    private static final int[] NO_CELL = {LEAST, -1, 8, 32, GREATEST};
    private static final int[] NO_SPEAKER = {LEAST, -1, 4, GREATEST};
    private static final int[] NO_RULE = {LEAST, -1, 3, 6, GREATEST};
    private static final int[] NO_SOUND = {LEAST, -1, 4, 16, GREATEST};
    // The last one was forgotten.
    private static final int[] NO_WORD = {LEAST, -1, 6, 40, GREATEST, 2};
    private static final int[] NO_FEATURES = {LEAST, -1, 64, GREATEST};

    private interface Made {
        Object of(Fieldgrammar camp);
    }

    private interface MadeOf {
        Object of(Fieldgrammar camp, int argument);
    }

    public static void main(String[] args) {
        changesNothing();
        sound();
        kind();
        put();
        lexeme();
        reform();
        ending();
        rule();
        turnAndRaise();
        hear();
        correctAndForget();
        except();
        merge();
        split();
        undo();
        lengthAtStep();
        ofWord();
        misfitAndClaims();
        pairs();
        holesAndShared();
        firstGoesFirst();
        check.close();
    }

    private static void refused(Class<?> want, Camps.Camp made, String call, Made asked) {
        for (int part = 0; part < Look.PARTS; part++) {
            Fieldgrammar camp = made.make();
            check.throwing(call, want, () -> asked.of(camp));
            check.due(call + ", part " + part, Look.part(part, camp), Look.part(part, made.make()));
        }
    }

    private static void bounds(Camps.Camp made, String call, Made asked) {
        refused(Check.BOUNDS, made, call, asked);
    }

    private static void argument(Camps.Camp made, String call, Made asked) {
        refused(Check.ARGUMENT, made, call, asked);
    }

    private static void state(Camps.Camp made, String call, Made asked) {
        refused(Check.STATE, made, call, asked);
    }

    /** For each of the arguments the call is out of bounds. */
    private static void bounds(int[] arguments, String call, MadeOf asked) {
        for (int argument : arguments) {
            bounds(Camps::some, call + " of " + argument, camp -> asked.of(camp, argument));
        }
    }

    private static void argument(int[] arguments, String call, MadeOf asked) {
        for (int argument : arguments) {
            argument(Camps::some, call + " of " + argument, camp -> asked.of(camp, argument));
        }
    }

    private static void changesNothing() {
        check.term("A call that throws an exception changes nothing");
        Fieldgrammar camp = Camps.some();
        check.throwing("hear(0, 0, 4)", Check.BOUNDS, () -> camp.hear(0, 0, 4));
        check.throwing("reform(1), gone", Check.BOUNDS, () -> Check.reformed(camp, 1));
        check.throwing("split(0, 256)", Check.ARGUMENT, () -> camp.split(0, 256));
        check.throwing("rule(0, 64, 0, 0)", Check.ARGUMENT, () -> camp.rule(0, 64, 0, 0));
        check.throwing("sound(3)", Check.STATE, () -> camp.sound(3));
        check.throwing("kind(0, 64)", Check.ARGUMENT, () -> camp.kind(0, 64));
        check.due("the next sound", camp.sound(4), 4);
        check.due("the next class", camp.kind(0, 0), 3);
        check.due("the next rule", camp.rule(0, 0, EDGE, EDGE), 3);
        check.due("the next word, of the draft", camp.hear(0, 0, 3), 6);
        check.due("its length", camp.ofWord(6, 3), 2);
        check.due("the next lexeme", camp.split(0, 1), 6);
        check.due("undo()", camp.undo(), 2);
    }

    private static void sound() {
        check.promise(2, "Throws `IllegalArgumentException` if features is out of range");
        argument(NO_FEATURES, "sound", (camp, features) -> camp.sound(features));
        check.promise(2, "Throws `IllegalStateException` if there is one with these");
        state(Camps::some, "sound(0), the first one", camp -> camp.sound(0));
        state(Camps::some, "sound(3), the last one", camp -> camp.sound(3));
        check.promise(2, "or there are 16");
        state(Camps::full, "sound(9), the 17th", camp -> camp.sound(9));
        state(Camps::full, "sound(63), the 17th, and there is one", camp -> camp.sound(63));
    }

    private static void kind() {
        check.promise(3, "Throws `IllegalArgumentException` if needs or bars is out of range");
        argument(NO_FEATURES, "kind by needs", (camp, needs) -> camp.kind(needs, 0));
        argument(NO_FEATURES, "kind by bars", (camp, bars) -> camp.kind(0, bars));
        check.promise(3, "Throws `IllegalStateException` if there are 12");
        state(Camps::full, "kind(0, 0), the 13th", camp -> camp.kind(0, 0));
        state(Camps::full, "kind(63, 63), the 13th", camp -> camp.kind(63, 63));
    }

    private static void put() {
        check.promise(4, "Throws `IndexOutOfBoundsException` if there is no such sound");
        bounds(NO_SOUND, "put", (camp, sound) -> camp.put(sound));
        bounds(Fieldgrammar::new, "put(0) of none", camp -> camp.put(0));
        bounds(Camps::full, "put(16) of 16", camp -> camp.put(16));
        check.promise(4, "Throws `IllegalStateException` if it has 8");
        state(() -> Camps.full(8), "put(0), the 9th", camp -> camp.put(0));
        state(() -> Camps.some(8), "put(3), the 9th", camp -> camp.put(3));
    }

    private static void lexeme() {
        check.promise(6, "Throws `IllegalStateException` if there were 16");
        state(() -> Camps.full(1), "lexeme(), the 17th", camp -> camp.lexeme());
        state(Camps::spent, "lexeme(), the 17th, two are gone", camp -> camp.lexeme());
        check.promise(6, "or the draft does not have 1 to 6 sounds");
        state(Fieldgrammar::new, "lexeme() of an empty draft", camp -> camp.lexeme());
        state(() -> Camps.some(0), "lexeme() of none", camp -> camp.lexeme());
        state(() -> Camps.some(7), "lexeme() of 7", camp -> camp.lexeme());
        state(() -> Camps.some(8), "lexeme() of 8", camp -> camp.lexeme());
    }

    private static void reform() {
        check.promise(7, "Throws `IndexOutOfBoundsException` if there is no such lexeme, or it is gone");
        bounds(NO_LEXEME, "reform", (camp, lexeme) -> Check.reformed(camp, lexeme));
        check.promise(7, "Throws `IllegalStateException` if the draft does not have 1 to 6 sounds");
        state(() -> Camps.some(0), "reform(0) by none", camp -> Check.reformed(camp, 0));
        state(() -> Camps.some(7), "reform(0) by 7", camp -> Check.reformed(camp, 0));
        state(() -> Camps.full(8), "reform(15) by 8", camp -> Check.reformed(camp, 15));
    }

    private static void ending() {
        check.promise(8, "Throws `IndexOutOfBoundsException` if there is no such cell");
        bounds(NO_CELL, "ending", (camp, cell) -> Check.ended(camp, cell));
        check.promise(8, "Throws `IllegalStateException` if the draft has more than 2 sounds");
        state(() -> Camps.some(3), "ending(0) of 3", camp -> Check.ended(camp, 0));
        state(() -> Camps.full(8), "ending(7) of 8", camp -> Check.ended(camp, 7));
    }

    private static void rule() {
        check.promise(9, "Throws `IndexOutOfBoundsException` if there is no such class, of all three");
        int[] noTarget = {LEAST, -3, EDGE, ANY, 3, 12, GREATEST};
        int[] noSide = {LEAST, -3, 3, 12, GREATEST};
        bounds(noTarget, "rule by its target", (camp, target) -> camp.rule(target, 1, ANY, ANY));
        bounds(noSide, "rule by its left", (camp, left) -> camp.rule(0, 1, left, ANY));
        bounds(noSide, "rule by its right", (camp, right) -> camp.rule(0, 1, ANY, right));
        check.promise(9, "Throws `IllegalArgumentException` if turned is out of range");
        argument(NO_FEATURES, "rule by what it turns", (camp, turned) -> camp.rule(0, turned, 2, EDGE));
        check.promise(9, "Throws `IllegalStateException` if there are 6");
        state(Camps::full, "rule(0, 0, ANY, ANY), the 7th", camp -> camp.rule(0, 0, ANY, ANY));
        state(Camps::full, "rule(11, 63, 11, 0), the 7th", camp -> camp.rule(11, 63, 11, 0));
    }

    private static void turnAndRaise() {
        check.promise(10, "Throws `IndexOutOfBoundsException` if there is no such rule");
        bounds(NO_RULE, "turn on", (camp, rule) -> camp.turn(rule, true));
        bounds(NO_RULE, "turn off", (camp, rule) -> camp.turn(rule, false));
        bounds(Camps::full, "turn(6, false) of 6", camp -> camp.turn(6, false));
        check.promise(11, "Throws `IndexOutOfBoundsException` if there is no such rule");
        bounds(NO_RULE, "raise", (camp, rule) -> camp.raise(rule));
        bounds(Camps::full, "raise(6) of 6", camp -> camp.raise(6));
    }

    private static void hear() {
        check.promise(12, "Throws `IndexOutOfBoundsException` if there is no such lexeme, or it is gone");
        bounds(NO_LEXEME, "hear by its lexeme", (camp, lexeme) -> camp.hear(lexeme, 0, 0));
        check.promise(12, "or no such cell");
        bounds(NO_CELL, "hear by its cell", (camp, cell) -> camp.hear(0, cell, 0));
        check.promise(12, "or speaker");
        bounds(NO_SPEAKER, "hear by its speaker", (camp, speaker) -> camp.hear(0, 0, speaker));
        check.promise(12, "Throws `IllegalStateException` if there were 40");
        state(() -> Camps.full(2), "hear(15, 7, 3), the 41st", camp -> camp.hear(15, 7, 3));
        state(Camps::forgotten, "hear(0, 0, 0), the 41st, 39 are forgotten", camp -> camp.hear(0, 0, 0));
    }

    private static void correctAndForget() {
        check.promise(13, "Throws `IndexOutOfBoundsException` if there is no such word, or it was forgotten");
        bounds(NO_WORD, "correct", (camp, word) -> camp.correct(word));
        bounds(() -> Camps.full(1), "correct(40) of 40", camp -> camp.correct(40));
        check.promise(14, "Throws `IndexOutOfBoundsException` if there is no such word, or it was forgotten");
        bounds(NO_WORD, "forget", (camp, word) -> camp.forget(word));
        bounds(Camps::full, "forget(40) of 40", camp -> camp.forget(40));
    }

    private static void except() {
        check.promise(15, "Throws `IndexOutOfBoundsException` if there is no such lexeme, or it is gone");
        bounds(NO_LEXEME, "except by its lexeme", (camp, lexeme) -> camp.except(lexeme, 0, true));
        bounds(NO_LEXEME, "except taken back by its lexeme", (camp, lexeme) -> camp.except(lexeme, 5, false));
        check.promise(15, "or no such cell");
        bounds(NO_CELL, "except by its cell", (camp, cell) -> camp.except(0, cell, true));
        bounds(NO_CELL, "except taken back by its cell", (camp, cell) -> camp.except(0, cell, false));
    }

    private static void merge() {
        check.promise(16, "Throws `IndexOutOfBoundsException` if there is no such lexeme, or it is gone, of either");
        bounds(NO_LEXEME, "merge by its lexeme", (camp, lexeme) -> camp.merge(lexeme, 0));
        bounds(NO_LEXEME, "merge by the other one", (camp, into) -> camp.merge(0, into));
        check.promise(16, "Throws `IllegalArgumentException` if both are the same");
        argument(Camps::some, "merge(0, 0)", camp -> camp.merge(0, 0));
        argument(Camps::some, "merge(5, 5)", camp -> camp.merge(5, 5));
        argument(Camps::full, "merge(15, 15)", camp -> camp.merge(15, 15));
    }

    private static void split() {
        check.promise(17, "Throws `IndexOutOfBoundsException` if there is no such lexeme, or it is gone");
        bounds(NO_LEXEME, "split", (camp, lexeme) -> camp.split(lexeme, 1));
        check.promise(17, "Throws `IllegalArgumentException` if cells is out of range");
        int[] noCells = {LEAST, -1, 0, 256, 511, GREATEST};
        argument(noCells, "split by its cells", (camp, cells) -> camp.split(0, cells));
        check.promise(17, "Throws `IllegalStateException` if there were 16");
        state(Camps::full, "split(0, 1), the 17th", camp -> camp.split(0, 1));
        state(Camps::spent, "split(1, 255), the 17th, two are gone", camp -> camp.split(1, 255));
    }

    private static void undo() {
        check.promise(18, "Throws `IllegalStateException` if there is none");
        state(Fieldgrammar::new, "undo() of a new object", camp -> camp.undo());
        state(Camps::full, "undo() of lexemes that were made", camp -> camp.undo());
        state(RefusedTest::allTakenBack, "undo() when all was taken back", camp -> camp.undo());
    }

    private static Fieldgrammar allTakenBack() {
        Fieldgrammar camp = Camps.some();
        camp.undo();
        camp.undo();
        return camp;
    }

    private static void lengthAtStep() {
        check.promise(19, "Throws `IndexOutOfBoundsException` if there is no such lexeme, or it is gone");
        bounds(NO_LEXEME, "length by its lexeme", (camp, lexeme) -> camp.length(lexeme, 0));
        check.promise(19, "or no such cell");
        bounds(NO_CELL, "length by its cell", (camp, cell) -> camp.length(0, cell));
        check.promise(20, "Throws `IndexOutOfBoundsException` if there is no such lexeme, or it is gone");
        bounds(NO_LEXEME, "at by its lexeme", (camp, lexeme) -> camp.at(lexeme, 0, 0));
        check.promise(20, "or no such cell");
        bounds(NO_CELL, "at by its cell", (camp, cell) -> camp.at(0, cell, 0));
        check.promise(20, "or place is below 0");
        bounds(new int[] {LEAST, -2, -1}, "at by its place", (camp, place) -> camp.at(0, 0, place));
        check.promise(21, "Throws `IndexOutOfBoundsException` if there is no such lexeme, or it is gone");
        bounds(NO_LEXEME, "step by its lexeme", (camp, lexeme) -> camp.step(lexeme, 0, 0));
        check.promise(21, "or no such cell");
        bounds(NO_CELL, "step by its cell", (camp, cell) -> camp.step(0, cell, 0));
        check.promise(21, "or rule");
        bounds(NO_RULE, "step by its rule", (camp, rule) -> camp.step(0, 0, rule));
    }

    private static void ofWord() {
        check.promise(22, "Throws `IndexOutOfBoundsException` if there is no such word, or it was forgotten");
        bounds(NO_WORD, "ofWord", (camp, word) -> camp.ofWord(word, 0));
        bounds(NO_WORD, "ofWord, whether it fits", (camp, word) -> camp.ofWord(word, 4));
        check.promise(22, "Throws `IllegalArgumentException` if what is out of range");
        argument(new int[] {LEAST, -1, 5, GREATEST}, "ofWord by what", (camp, what) -> camp.ofWord(0, what));
    }

    private static void misfitAndClaims() {
        check.promise(23, "Throws `IndexOutOfBoundsException` if place is below 0");
        bounds(new int[] {LEAST, -2, -1}, "misfit", (camp, place) -> camp.misfit(place));
        bounds(Fieldgrammar::new, "misfit(-1) of no words", camp -> camp.misfit(-1));
        check.promise(24, "Throws `IndexOutOfBoundsException` if there is no such rule");
        bounds(NO_RULE, "claims that support", (camp, rule) -> camp.claims(rule, true));
        bounds(NO_RULE, "claims that contradict", (camp, rule) -> camp.claims(rule, false));
    }

    private static void pairs() {
        check.promise(28, "Throws `IndexOutOfBoundsException` if there is no such sound, of either");
        bounds(NO_SOUND, "pairs by the one", (camp, one) -> camp.pairs(one, 0));
        bounds(NO_SOUND, "pairs by the other one", (camp, other) -> camp.pairs(0, other));
        check.promise(28, "Throws `IllegalArgumentException` if both are the same");
        argument(Camps::some, "pairs(0, 0)", camp -> camp.pairs(0, 0));
        argument(Camps::some, "pairs(3, 3)", camp -> camp.pairs(3, 3));
    }

    private static void holesAndShared() {
        check.promise(29, "Throws `IndexOutOfBoundsException` if there is no such lexeme, or it is gone");
        bounds(NO_LEXEME, "holes", (camp, lexeme) -> camp.holes(lexeme));
        check.promise(30, "Throws `IndexOutOfBoundsException` if there is no such speaker, of either");
        bounds(NO_SPEAKER, "shared by the one", (camp, one) -> camp.shared(one, 0));
        bounds(NO_SPEAKER, "shared by the other one", (camp, other) -> camp.shared(0, other));
        bounds(NO_SPEAKER, "shared of one and the same", (camp, one) -> camp.shared(one, one));
    }

    private static void firstGoesFirst() {
        check.term("if several exceptions apply, the one that its throws clause names first is thrown");
        argument(Camps::full, "sound(64) with 16", camp -> camp.sound(64));
        argument(Camps::full, "sound(-1) with 16", camp -> camp.sound(-1));
        argument(Camps::full, "kind(64, 0) with 12", camp -> camp.kind(64, 0));
        argument(Camps::full, "kind(0, -1) with 12", camp -> camp.kind(0, -1));
        bounds(() -> Camps.full(8), "put(16) with 8", camp -> camp.put(16));
        bounds(() -> Camps.some(8), "put(-1) with 8", camp -> camp.put(-1));
        bounds(() -> Camps.some(0), "reform(6) by none", camp -> Check.reformed(camp, 6));
        bounds(() -> Camps.some(7), "reform(1), gone, by 7", camp -> Check.reformed(camp, 1));
        bounds(() -> Camps.some(3), "ending(8) of 3", camp -> Check.ended(camp, 8));
        bounds(() -> Camps.some(8), "ending(-1) of 8", camp -> Check.ended(camp, -1));
        bounds(() -> Camps.full(3), "hear(16, 0, 0) with 40", camp -> camp.hear(16, 0, 0));
        bounds(() -> Camps.full(3), "hear(0, 8, 0) with 40", camp -> camp.hear(0, 8, 0));
        bounds(() -> Camps.full(3), "hear(0, 0, 4) with 40", camp -> camp.hear(0, 0, 4));
        bounds(Camps::some, "merge(6, 6), no such", camp -> camp.merge(6, 6));
        bounds(Camps::some, "merge(1, 1), gone", camp -> camp.merge(1, 1));
        bounds(Camps::some, "merge(-1, -1)", camp -> camp.merge(-1, -1));
        bounds(Camps::some, "ofWord(6, 5)", camp -> camp.ofWord(6, 5));
        bounds(Camps::some, "ofWord(2, -1), forgotten", camp -> camp.ofWord(2, -1));
        bounds(Camps::some, "pairs(4, 4)", camp -> camp.pairs(4, 4));
        bounds(Camps::some, "pairs(-1, -1)", camp -> camp.pairs(-1, -1));
        firstGoesFirstOfThree();
    }

    private static void firstGoesFirstOfThree() {
        bounds(Camps::some, "rule(3, 64, ANY, ANY)", camp -> camp.rule(3, 64, ANY, ANY));
        bounds(Camps::some, "rule(0, 64, 3, ANY)", camp -> camp.rule(0, 64, 3, ANY));
        bounds(Camps::some, "rule(0, -1, ANY, -3)", camp -> camp.rule(0, -1, ANY, -3));
        bounds(Camps::full, "rule(12, 1, ANY, ANY) with 6", camp -> camp.rule(12, 1, ANY, ANY));
        bounds(Camps::full, "rule(0, 1, 12, ANY) with 6", camp -> camp.rule(0, 1, 12, ANY));
        bounds(Camps::full, "rule(0, 64, ANY, 12) with 6", camp -> camp.rule(0, 64, ANY, 12));
        argument(Camps::full, "rule(0, 64, ANY, ANY) with 6", camp -> camp.rule(0, 64, ANY, ANY));
        bounds(Camps::some, "split(6, 0)", camp -> camp.split(6, 0));
        bounds(Camps::some, "split(1, 256), gone", camp -> camp.split(1, 256));
        bounds(Camps::full, "split(16, 1) with 16", camp -> camp.split(16, 1));
        bounds(Camps::spent, "split(0, 0), gone, with 16", camp -> camp.split(0, 0));
        argument(Camps::full, "split(0, 0) with 16", camp -> camp.split(0, 0));
        argument(Camps::spent, "split(1, 256) with 16", camp -> camp.split(1, 256));
    }
}
