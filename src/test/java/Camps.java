/** Camps that several tests begin with; each is made by fewer calls than half of the 512 that are promised. */
final class Camps {
    private static final int ANY = Fieldgrammar.ANY;
    private static final int EDGE = Fieldgrammar.EDGE;
    private static final int[] FEATURES = {0, 1, 2, 3, 4, 5, 6, 7, 8, 16, 32, 33, 48, 56, 62, 63};
    private static final int[] NEEDS = {0, 1, 0, 2, 0, 4, 0, 8, 0, 16, 32, 63};
    private static final int[] BARS = {0, 0, 1, 0, 2, 0, 4, 0, 8, 0, 0, 0};

    interface Camp {
        Fieldgrammar make();
    }

    private Camps() {
    }

    /**
     * Something of all: sounds 0 to 3, classes and rules 0 to 2, lexemes 0 to 5, words 0 to 5, a draft of two. Lexeme
     * 1 is gone by a merge, 4 by a split that was taken back; word 2 was forgotten; rule 2 is off, rule 1 is first.
     */
    static Fieldgrammar some() {
        Fieldgrammar camp = Check.camp(4);
        int all = camp.kind(0, 0);
        int odd = camp.kind(1, 0);
        int even = camp.kind(0, 1);
        camp.rule(even, 1, ANY, EDGE);
        camp.rule(odd, 0, odd, ANY);
        camp.rule(all, 2, EDGE, ANY);
        camp.raise(1);
        camp.turn(2, false);
        Check.ending(camp, 1, 2);
        Check.ending(camp, 7, 1, 0);
        Check.lexeme(camp, 0, 1);
        Check.lexeme(camp, 2);
        Check.lexeme(camp, 1, 1, 0);
        Check.lexeme(camp, 3, 0, 0, 0, 0, 2);
        Check.word(camp, 0, 0, 0, 0, 1);
        Check.word(camp, 1, 1, 1, 2, 3);
        Check.word(camp, 0, 2, 1, 3);
        Check.word(camp, 2, 0, 2, 1, 1);
        Check.word(camp, 2, 3, 3, 1, 0);
        Check.word(camp, 3, 7, 0, 3);
        Check.exception(camp, 0, 4, 3, 3);
        Check.exception(camp, 1, 5, 2, 0);
        Check.exception(camp, 2, 6);
        camp.forget(2);
        camp.merge(1, 0);
        camp.split(0, 2);
        camp.undo();
        camp.split(2, 1);
        return Check.draft(camp, 1, 2);
    }

    /** As many sounds, classes, rules, lexemes and words as there can be, and an empty draft. */
    static Fieldgrammar full() {
        Fieldgrammar camp = new Fieldgrammar();
        for (int features : FEATURES) {
            camp.sound(features);
        }
        for (int kind = 0; kind < NEEDS.length; kind++) {
            camp.kind(NEEDS[kind], BARS[kind]);
        }
        camp.rule(0, 1, EDGE, ANY);
        camp.rule(11, 0, ANY, ANY);
        camp.rule(1, 2, 1, ANY);
        camp.rule(2, 1, ANY, EDGE);
        camp.rule(9, 0, 10, ANY);
        camp.rule(0, 2, 0, EDGE);
        for (int lexeme = 0; lexeme < 16; lexeme++) {
            camp.put(lexeme);
            camp.put(15 - lexeme);
            camp.lexeme();
        }
        for (int word = 0; word < 40; word++) {
            camp.put(word % 16);
            camp.hear(word % 16, word % 8, word % 4);
        }
        return camp;
    }

    /** As full(), with a draft of one sound put a number of times. */
    static Fieldgrammar full(int draft) {
        Fieldgrammar camp = full();
        for (int size = 0; size < draft; size++) {
            camp.put(9);
        }
        return camp;
    }

    /** As some(), with a draft of one sound put a number of times. */
    static Fieldgrammar some(int draft) {
        Fieldgrammar camp = some();
        camp.wipe();
        for (int size = 0; size < draft; size++) {
            camp.put(3);
        }
        return camp;
    }

    /** There were 16 lexemes, of which 0 is gone by a merge and 15 by a split that was taken back; a draft of one. */
    static Fieldgrammar spent() {
        Fieldgrammar camp = Check.camp(1);
        for (int lexeme = 0; lexeme < 15; lexeme++) {
            Check.lexeme(camp, 0);
        }
        camp.merge(0, 1);
        camp.split(1, 1);
        camp.undo();
        camp.put(0);
        return camp;
    }

    /** A camp with 40 words that were heard, of which all but word 0 were forgotten; a draft of one. */
    static Fieldgrammar forgotten() {
        Fieldgrammar camp = Check.campWithThree();
        for (int word = 0; word < 40; word++) {
            camp.hear(0, 0, 0);
        }
        for (int word = 1; word < 40; word++) {
            camp.forget(word);
        }
        camp.put(0);
        return camp;
    }
}
