/**
 * The lines of promises 2 to 30 that tell an argument's range: the first and the last one inside it are taken, and do
 * what they tell. RefusedTest has the ones outside.
 */
public final class RangesTest {
    private static final Check check = new Check();
    private static final int ANY = Fieldgrammar.ANY;
    private static final int EDGE = Fieldgrammar.EDGE;
    private static final int NONE = Fieldgrammar.NONE;

    public static void main(String[] args) {
        features();
        needsAndBars();
        soundOfPut();
        lexemeOfReform();
        cellOfEnding();
        classesOfRule();
        turned();
        left();
        right();
        ruleOfTurn();
        isOn();
        ruleOfRaise();
        lexemeOfHear();
        cellOfHear();
        speakerOfHear();
        wordOfCorrect();
        wordOfForget();
        lexemeOfExcept();
        cellOfExcept();
        isOne();
        lexemesOfMerge();
        lexemeOfSplit();
        cellsOfSplit();
        lexemeAndCellOfLength();
        lexemeAndCellOfAt();
        placeOfAt();
        lexemeAndCellOfStep();
        ruleOfStep();
        wordOfOfWord();
        what();
        placeOfMisfit();
        ruleOfClaims();
        supports();
        soundsOfPairs();
        lexemeOfHoles();
        speakersOfShared();
        check.close();
    }

    /** As many lexemes as there can be, each of one sound, that of its number. */
    private static Fieldgrammar lexemes() {
        Fieldgrammar camp = Check.camp(16);
        for (int lexeme = 0; lexeme < 16; lexeme++) {
            Check.lexeme(camp, lexeme);
        }
        return camp;
    }

    /** As many rules as there can be; rule n turns sound 0 into the one with the feature n, sound n + 1. */
    private static Fieldgrammar rules() {
        Fieldgrammar camp = new Fieldgrammar();
        camp.sound(0);
        int kind = camp.kind(0, 63);
        for (int rule = 0; rule < 6; rule++) {
            camp.sound(1 << rule);
            camp.rule(kind, 1 << rule, ANY, ANY);
        }
        Check.lexeme(camp, 0);
        return camp;
    }

    /** As many words as there can be, of one lexeme; word n is of cell n % 8 and speaker n % 4, and empty. */
    private static Fieldgrammar words() {
        Fieldgrammar camp = Check.camp(2);
        Check.lexeme(camp, 1);
        for (int word = 0; word < 40; word++) {
            camp.hear(0, word % 8, word % 4);
        }
        return camp;
    }

    private static void features() {
        check.promise(2, "- `features`: 0 to 63");
        Fieldgrammar camp = new Fieldgrammar();
        check.due("sound(63)", camp.sound(63), 0);
        check.due("sound(0)", camp.sound(0), 1);
        camp.rule(camp.kind(0, 0), 63, ANY, ANY);
        check.due("one is the other one turned", Check.spoken(camp, Check.lexeme(camp, 0, 1), 0), "1 0");
    }

    private static String leftBy(int needs, int bars) {
        Fieldgrammar camp = new Fieldgrammar();
        camp.sound(0);
        camp.sound(63);
        camp.sound(32);
        camp.sound(31);
        camp.rule(camp.kind(needs, bars), 0, ANY, ANY);
        return Check.spoken(camp, Check.lexeme(camp, 0, 1, 2, 3), 0);
    }

    private static void needsAndBars() {
        check.promise(3, "- `needs`: 0 to 63");
        check.due("left by kind(0, 0)", leftBy(0, 0), "");
        check.due("left by kind(63, 0)", leftBy(63, 0), "0 2 3");
        check.due("left by kind(32, 0)", leftBy(32, 0), "0 3");
        check.promise(3, "- `bars`: 0 to 63");
        check.due("left by kind(0, 63)", leftBy(0, 63), "1 2 3");
        check.due("left by kind(0, 32)", leftBy(0, 32), "1 2");
        check.due("left by kind(63, 63)", leftBy(63, 63), "0 1 2 3");
    }

    private static void soundOfPut() {
        check.promise(4, "- `sound`: the number of a sound");
        Fieldgrammar camp = Check.camp(16);
        check.due("put(0)", camp.put(0), 1);
        check.due("put(15)", camp.put(15), 2);
        check.due("the word", Check.spoken(camp, camp.lexeme(), 0), "0 15");
    }

    private static void lexemeOfReform() {
        check.promise(7, "- `lexeme`: the number of a lexeme");
        Fieldgrammar camp = lexemes();
        Check.draft(camp, 7, 7).reform(0);
        Check.draft(camp, 8, 8).reform(15);
        check.due("the word of 0", Check.spoken(camp, 0, 0), "7 7");
        check.due("the word of 1", Check.spoken(camp, 1, 0), "1");
        check.due("the word of 14", Check.spoken(camp, 14, 0), "14");
        check.due("the word of 15", Check.spoken(camp, 15, 0), "8 8");
    }

    private static void cellOfEnding() {
        check.promise(8, "- `cell`: 0 to 7");
        Fieldgrammar camp = lexemes();
        Check.ending(camp, 0, 1);
        Check.ending(camp, 7, 2);
        check.due("cell 0", Check.spoken(camp, 9, 0), "9 1");
        check.due("cell 1", Check.spoken(camp, 9, 1), "9");
        check.due("cell 6", Check.spoken(camp, 9, 6), "9");
        check.due("cell 7", Check.spoken(camp, 9, 7), "9 2");
    }

    /** The classes 0 to 11, class n having the sound n alone, and a lexeme of the sounds 0, 11, 0 and 11. */
    private static Fieldgrammar classes() {
        Fieldgrammar camp = Check.camp(12);
        for (int kind = 0; kind < 12; kind++) {
            camp.kind(kind, 63 - kind);
        }
        Check.lexeme(camp, 0, 11, 0, 11);
        return camp;
    }

    private static String leftByRule(int target, int left, int right) {
        Fieldgrammar camp = classes();
        camp.rule(target, 0, left, right);
        return Check.spoken(camp, 0, 0);
    }

    private static void classesOfRule() {
        check.promise(9, "- `target`: the number of a class");
        check.due("left by target 0", leftByRule(0, ANY, ANY), "11 11");
        check.due("left by target 11", leftByRule(11, ANY, ANY), "0 0");
    }

    private static void turned() {
        check.promise(9, "- `turned`: 0 to 63: the features");
        Fieldgrammar camp = new Fieldgrammar();
        camp.sound(21);
        camp.sound(42);
        int all = camp.kind(0, 0);
        int lexeme = Check.lexeme(camp, 0, 1);
        check.due("rule(0, 63, ANY, EDGE)", camp.rule(all, 63, ANY, EDGE), 0);
        check.due("63: all features", Check.spoken(camp, lexeme, 0), "0 0");
        check.due("rule(0, 0, ANY, EDGE)", camp.rule(all, 0, ANY, EDGE), 1);
        check.due("0: none", Check.spoken(camp, lexeme, 0), "0");
    }

    private static void left() {
        check.promise(9, "- `left`: the number of a class, ANY or EDGE");
        check.due("left 0", leftByRule(11, 0, ANY), "0 0");
        check.due("left 11", leftByRule(0, 11, ANY), "0 11 11");
        check.due("left ANY", leftByRule(0, ANY, ANY), "11 11");
        check.due("left EDGE", leftByRule(0, EDGE, ANY), "11 0 11");
    }

    private static void right() {
        check.promise(9, "- `right`: the number of a class, ANY or EDGE");
        check.due("right 0", leftByRule(11, ANY, 0), "0 0 11");
        check.due("right 11", leftByRule(0, ANY, 11), "11 11");
        check.due("right ANY", leftByRule(11, ANY, ANY), "0 0");
        check.due("right EDGE", leftByRule(11, ANY, EDGE), "0 11 0");
    }

    private static void ruleOfTurn() {
        check.promise(10, "- `rule`: the number of a rule");
        Fieldgrammar camp = rules();
        check.due("by rule 0", Check.spoken(camp, 0, 0), "1");
        check.due("turn(0, false)", camp.turn(0, false), true);
        check.due("by rule 1", Check.spoken(camp, 0, 0), "2");
        for (int rule = 1; rule < 5; rule++) {
            camp.turn(rule, false);
        }
        check.due("by rule 5", Check.spoken(camp, 0, 0), "6");
        check.due("turn(5, false)", camp.turn(5, false), true);
        check.due("by none", Check.spoken(camp, 0, 0), "0");
    }

    private static void isOn() {
        check.promise(10, "- `isOn`: whether it is on");
        Fieldgrammar camp = rules();
        camp.turn(0, false);
        check.due("step(0, 0, 0), off", camp.step(0, 0, 0), 0);
        camp.turn(0, true);
        check.due("step(0, 0, 0), on", camp.step(0, 0, 0), 1);
    }

    private static void ruleOfRaise() {
        check.promise(11, "- `rule`: the number of a rule");
        Fieldgrammar camp = rules();
        check.due("raise(0)", camp.raise(0), 0);
        check.due("raise(5)", camp.raise(5), 4);
        check.due("raise(1)", camp.raise(1), 0);
        check.due("by rule 1", Check.spoken(camp, 0, 0), "2");
    }

    private static void lexemeOfHear() {
        check.promise(12, "- `lexeme`: the number of a lexeme");
        Fieldgrammar camp = lexemes();
        camp.hear(15, 0, 0);
        camp.hear(0, 0, 0);
        check.due("lexeme of 0", camp.ofWord(0, 0), 15);
        check.due("lexeme of 1", camp.ofWord(1, 0), 0);
    }

    private static void cellOfHear() {
        check.promise(12, "- `cell`: 0 to 7");
        Fieldgrammar camp = lexemes();
        camp.hear(0, 7, 0);
        camp.hear(0, 0, 0);
        check.due("cell of 0", camp.ofWord(0, 1), 7);
        check.due("cell of 1", camp.ofWord(1, 1), 0);
        check.due("holes(0)", camp.holes(0), 126);
    }

    private static void speakerOfHear() {
        check.promise(12, "- `speaker`: 0 to 3");
        Fieldgrammar camp = lexemes();
        camp.hear(0, 0, 3);
        camp.hear(0, 0, 0);
        check.due("speaker of 0", camp.ofWord(0, 2), 3);
        check.due("speaker of 1", camp.ofWord(1, 2), 0);
        check.due("shared(0, 3)", camp.shared(0, 3), 1);
    }

    private static void wordOfCorrect() {
        check.promise(13, "- `word`: the number of a word");
        Fieldgrammar camp = words();
        camp.put(1);
        check.due("correct(0)", camp.correct(0), true);
        Check.draft(camp, 1, 1);
        check.due("correct(39)", camp.correct(39), true);
        check.due("length of 0", camp.ofWord(0, 3), 1);
        check.due("length of 1", camp.ofWord(1, 3), 0);
        check.due("length of 38", camp.ofWord(38, 3), 0);
        check.due("length of 39", camp.ofWord(39, 3), 2);
    }

    private static void wordOfForget() {
        check.promise(14, "- `word`: the number of a word");
        Fieldgrammar camp = words();
        check.due("forget(0)", camp.forget(0), 39);
        check.due("forget(39)", camp.forget(39), 38);
        check.due("misfit(0)", camp.misfit(0), 1);
        check.due("misfit(37)", camp.misfit(37), 38);
        check.due("misfit(38)", camp.misfit(38), NONE);
    }

    private static void lexemeOfExcept() {
        check.promise(15, "- `lexeme`: the number of a lexeme");
        Fieldgrammar camp = lexemes();
        Check.exception(camp, 0, 3, 5, 5);
        Check.exception(camp, 15, 3, 6, 6);
        check.due("the word of 0", Check.spoken(camp, 0, 3), "5 5");
        check.due("the word of 1", Check.spoken(camp, 1, 3), "1");
        check.due("the word of 14", Check.spoken(camp, 14, 3), "14");
        check.due("the word of 15", Check.spoken(camp, 15, 3), "6 6");
    }

    private static void cellOfExcept() {
        check.promise(15, "- `cell`: 0 to 7");
        Fieldgrammar camp = lexemes();
        Check.exception(camp, 9, 0, 5, 5);
        Check.exception(camp, 9, 7, 6, 6);
        check.due("cell 0", Check.spoken(camp, 9, 0), "5 5");
        check.due("cell 1", Check.spoken(camp, 9, 1), "9");
        check.due("cell 6", Check.spoken(camp, 9, 6), "9");
        check.due("cell 7", Check.spoken(camp, 9, 7), "6 6");
        check.due("except(9, 7, false)", camp.except(9, 7, false), true);
        check.due("except(9, 0, false)", camp.except(9, 0, false), true);
        check.due("cell 0", Check.spoken(camp, 9, 0), "9");
    }

    private static void isOne() {
        check.promise(15, "- `isOne`: whether it is one");
        Fieldgrammar camp = lexemes();
        camp.put(3);
        camp.except(0, 0, false);
        check.due("none", Check.spoken(camp, 0, 0), "0");
        camp.except(0, 0, true);
        check.due("one", Check.spoken(camp, 0, 0), "3");
        camp.except(0, 0, false);
        check.due("none again", Check.spoken(camp, 0, 0), "0");
    }

    private static void lexemesOfMerge() {
        check.promise(16, "- `lexeme`: the number of a lexeme, which is gone then");
        Fieldgrammar camp = lexemes();
        camp.hear(0, 0, 0);
        check.due("merge(0, 15)", camp.merge(0, 15), 1);
        check.throwing("length(0, 0)", Check.BOUNDS, () -> camp.length(0, 0));
        check.due("length(15, 0)", camp.length(15, 0), 1);
        check.promise(16, "- `into`: the number of another lexeme");
        check.due("lexeme of 0", camp.ofWord(0, 0), 15);
        check.due("merge(15, 1)", camp.merge(15, 1), 1);
        check.due("lexeme of 0", camp.ofWord(0, 0), 1);
        camp.undo();
        camp.undo();
        check.due("merge(15, 0)", camp.merge(15, 0), 0);
        check.throwing("length(15, 0)", Check.BOUNDS, () -> camp.length(15, 0));
    }

    private static void lexemeOfSplit() {
        check.promise(17, "- `lexeme`: the number of a lexeme");
        Fieldgrammar camp = Check.camp(15);
        for (int lexeme = 0; lexeme < 14; lexeme++) {
            Check.lexeme(camp, lexeme);
        }
        check.due("split(0, 1)", camp.split(0, 1), 14);
        check.due("its word", Check.spoken(camp, 14, 0), "0");
        check.due("split(14, 1), the last one", camp.split(14, 1), 15);
        check.due("its word", Check.spoken(camp, 15, 0), "0");
    }

    private static void cellsOfSplit() {
        check.promise(17, "- `cells`: 1 to 255: bits of cells");
        Fieldgrammar camp = Check.camp(1);
        Check.lexeme(camp, 0);
        for (int cell = 0; cell < 8; cell++) {
            camp.hear(0, cell, 0);
        }
        check.due("split(0, 1)", camp.split(0, 1), 1);
        check.due("holes(1)", camp.holes(1), 254);
        check.due("holes(0)", camp.holes(0), 1);
        check.due("split(0, 128)", camp.split(0, 128), 2);
        check.due("holes(2)", camp.holes(2), 127);
        check.due("split(0, 255)", camp.split(0, 255), 3);
        check.due("holes(3)", camp.holes(3), 129);
        check.due("holes(0)", camp.holes(0), 255);
    }

    /** As lexemes(), with an ending of the sound 4 in cell 0 and one of two sounds in cell 7. */
    private static Fieldgrammar lexemesWithEndings() {
        Fieldgrammar camp = lexemes();
        Check.ending(camp, 0, 4);
        Check.ending(camp, 7, 5, 6);
        return camp;
    }

    private static void lexemeAndCellOfLength() {
        Fieldgrammar camp = lexemesWithEndings();
        Check.draft(camp, 1, 1, 1).reform(0);
        Check.draft(camp, 1, 1).reform(15);
        check.promise(19, "- `lexeme`: the number of a lexeme");
        check.due("length(0, 1)", camp.length(0, 1), 3);
        check.due("length(15, 1)", camp.length(15, 1), 2);
        check.promise(19, "- `cell`: 0 to 7");
        check.due("length(9, 0)", camp.length(9, 0), 2);
        check.due("length(9, 7)", camp.length(9, 7), 3);
    }

    private static void lexemeAndCellOfAt() {
        Fieldgrammar camp = lexemesWithEndings();
        check.promise(20, "- `lexeme`: the number of a lexeme");
        check.due("at(0, 1, 0)", camp.at(0, 1, 0), 0);
        check.due("at(15, 1, 0)", camp.at(15, 1, 0), 15);
        check.promise(20, "- `cell`: 0 to 7");
        check.due("at(9, 0, 1)", camp.at(9, 0, 1), 4);
        check.due("at(9, 7, 1)", camp.at(9, 7, 1), 5);
    }

    /** Places far behind the end have no sound, also such as would wrap around if they were multiplied or shifted. */
    private static void placeOfAt() {
        check.promise(20, "- `place`: from 0 on");
        Fieldgrammar camp = lexemes();
        Check.exception(camp, 2, 2, 8, 9, 8, 9, 8, 9, 8, 7);
        check.due("at(2, 2, 0)", camp.at(2, 2, 0), 8);
        check.due("at(2, 2, 7)", camp.at(2, 2, 7), 7);
        int[] behind = {8, 12, 13, 16, 32, 64, 256, 858993460, 1 << 29, 1 << 30, Integer.MAX_VALUE};
        for (int place : behind) {
            check.due("at(2, 2, " + place + ")", camp.at(2, 2, place), NONE);
        }
    }

    /** Rule 0 takes feature 1 from the last sound of a word; rule 5 leaves the sound 13 out. */
    private static Fieldgrammar lexemesWithRules() {
        Fieldgrammar camp = lexemes();
        int two = camp.kind(2, 0);
        int none = camp.kind(63, 0);
        camp.rule(two, 2, ANY, EDGE);
        for (int rule = 1; rule < 5; rule++) {
            camp.rule(none, 1, ANY, ANY);
        }
        camp.rule(camp.kind(13, 2), 0, ANY, ANY);
        return camp;
    }

    private static void lexemeAndCellOfStep() {
        Fieldgrammar camp = lexemesWithRules();
        Check.ending(camp, 0, 4);
        Check.ending(camp, 7, 3);
        check.promise(21, "- `lexeme`: the number of a lexeme");
        check.due("step(0, 1, 0)", camp.step(0, 1, 0), 0);
        check.due("step(15, 1, 0)", camp.step(15, 1, 0), 1);
        check.promise(21, "- `cell`: 0 to 7");
        check.due("step(15, 0, 0)", camp.step(15, 0, 0), 0);
        check.due("step(0, 7, 0)", camp.step(0, 7, 0), 1);
    }

    private static void ruleOfStep() {
        check.promise(21, "- `rule`: the number of a rule");
        Fieldgrammar camp = lexemesWithRules();
        check.due("step(15, 0, 0)", camp.step(15, 0, 0), 1);
        check.due("step(15, 0, 1)", camp.step(15, 0, 1), 0);
        check.due("step(15, 0, 5)", camp.step(15, 0, 5), 1);
        check.due("step(12, 0, 5)", camp.step(12, 0, 5), 0);
    }

    private static void wordOfOfWord() {
        check.promise(22, "- `word`: the number of a word");
        Fieldgrammar camp = words();
        check.due("cell of 0", camp.ofWord(0, 1), 0);
        check.due("cell of 38", camp.ofWord(38, 1), 6);
        check.due("cell of 39", camp.ofWord(39, 1), 7);
        check.due("speaker of 39", camp.ofWord(39, 2), 3);
    }

    private static void what() {
        check.promise(22, "- `what`: 0 its lexeme, 1 its cell, 2 its speaker, 3 how long it is,"
                + " 4 1 if it fits, otherwise 0");
        Fieldgrammar camp = lexemes();
        int word = Check.word(camp, 15, 6, 1, 15, 15, 15);
        check.due("0: its lexeme", camp.ofWord(word, 0), 15);
        check.due("1: its cell", camp.ofWord(word, 1), 6);
        check.due("2: its speaker", camp.ofWord(word, 2), 1);
        check.due("3: how long it is", camp.ofWord(word, 3), 3);
        check.due("4: 0, for it does not fit", camp.ofWord(word, 4), 0);
        Check.draft(camp, 15).correct(word);
        check.due("4: 1, for it fits", camp.ofWord(word, 4), 1);
        Check.draft(camp, 1, 2, 3, 4, 5, 6, 7, 8).correct(word);
        check.due("3: of the longest", camp.ofWord(word, 3), 8);
        camp.correct(word);
        check.due("3: of an empty one", camp.ofWord(word, 3), 0);
    }

    private static void placeOfMisfit() {
        check.promise(23, "- `place`: from 0 on");
        Fieldgrammar camp = words();
        check.due("misfit(0)", camp.misfit(0), 0);
        check.due("misfit(39)", camp.misfit(39), 39);
        check.due("misfit(40)", camp.misfit(40), NONE);
        check.due("misfit(MAX)", camp.misfit(Integer.MAX_VALUE), NONE);
    }

    private static void ruleOfClaims() {
        check.promise(24, "- `rule`: the number of a rule");
        Fieldgrammar camp = lexemesWithRules();
        Check.word(camp, 3, 0, 0, 1);
        Check.word(camp, 13, 0, 0);
        check.due("claims(0, true)", camp.claims(0, true), 1);
        check.due("claims(1, true)", camp.claims(1, true), 0);
        check.due("claims(4, true)", camp.claims(4, true), 0);
        check.due("claims(5, true)", camp.claims(5, true), 1);
    }

    private static void supports() {
        check.promise(24, "- `supports`: whether those that support it are counted,"
                + " otherwise those that contradict it");
        Fieldgrammar camp = lexemesWithRules();
        Check.word(camp, 3, 0, 0, 1);
        Check.word(camp, 3, 1, 0, 1);
        Check.word(camp, 3, 1, 0, 3);
        check.due("claims(0, true)", camp.claims(0, true), 2);
        check.due("claims(0, false)", camp.claims(0, false), 1);
    }

    private static void soundsOfPairs() {
        Fieldgrammar camp = lexemes();
        Check.word(camp, 0, 0, 0, 15);
        Check.word(camp, 1, 0, 0, 0);
        check.promise(28, "- `one`: the number of a sound");
        check.due("pairs(0, 15)", camp.pairs(0, 15), 1);
        check.due("pairs(14, 15)", camp.pairs(14, 15), 0);
        check.promise(28, "- `other`: the number of another sound");
        check.due("pairs(15, 0)", camp.pairs(15, 0), 1);
        check.due("pairs(15, 1)", camp.pairs(15, 1), 0);
    }

    private static void lexemeOfHoles() {
        check.promise(29, "- `lexeme`: the number of a lexeme");
        Fieldgrammar camp = lexemes();
        camp.hear(0, 0, 0);
        camp.hear(15, 7, 0);
        check.due("holes(0)", camp.holes(0), 254);
        check.due("holes(1)", camp.holes(1), 255);
        check.due("holes(15)", camp.holes(15), 127);
    }

    private static void speakersOfShared() {
        Fieldgrammar camp = lexemes();
        camp.hear(0, 0, 0);
        camp.hear(0, 0, 3);
        camp.hear(0, 1, 3);
        check.promise(30, "- `one`: 0 to 3");
        check.due("shared(0, 3)", camp.shared(0, 3), 1);
        check.due("shared(0, 0)", camp.shared(0, 0), 1);
        check.promise(30, "- `other`: 0 to 3");
        check.due("shared(3, 0)", camp.shared(3, 0), 1);
        check.due("shared(3, 3)", camp.shared(3, 3), 2);
        check.due("shared(3, 2)", camp.shared(3, 2), 0);
    }
}
