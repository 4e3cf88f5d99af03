/**
 * What promises 1 to 30 say that each call does and returns, a sentence at a time: "NONE if ..", "0 if ..", "the first
 * one stays", and where answers begin and end.
 */
public final class ReturnsTest {
    private static final Check check = new Check();
    private static final int ANY = Fieldgrammar.ANY;
    private static final int EDGE = Fieldgrammar.EDGE;
    private static final int NONE = Fieldgrammar.NONE;

    public static void main(String[] args) {
        newObject();
        sound();
        kind();
        put();
        wipe();
        lexeme();
        reform();
        ending();
        rule();
        turn();
        raise();
        raiseOfOneThatIsOff();
        hear();
        correct();
        forget();
        except();
        exceptTakenBack();
        merge();
        split();
        undo();
        length();
        at();
        step();
        stepWithExceptions();
        ofWord();
        misfit();
        claims();
        claimsOfARuleThatIsOff();
        fitting();
        smallest();
        smallestOfSeveral();
        question();
        pairs();
        holes();
        shared();
        sharedOfOneAndTheSame();
        check.close();
    }

    private static void newObject() {
        check.promise(1, "Creates a camp without sounds and lexemes");
        Fieldgrammar camp = new Fieldgrammar();
        check.throwing("put(0)", Check.BOUNDS, () -> camp.put(0));
        check.throwing("length(0, 0)", Check.BOUNDS, () -> camp.length(0, 0));
        check.throwing("rule(0, 0, ANY, ANY)", Check.BOUNDS, () -> camp.rule(0, 0, ANY, ANY));
        check.throwing("turn(0, true)", Check.BOUNDS, () -> camp.turn(0, true));
        check.throwing("ofWord(0, 0)", Check.BOUNDS, () -> camp.ofWord(0, 0));
        check.throwing("undo()", Check.STATE, () -> camp.undo());
        check.due("wipe()", camp.wipe(), 0);
        check.due("misfit(0)", camp.misfit(0), NONE);
        check.due("fitting()", camp.fitting(), 1);
        check.due("smallest()", camp.smallest(), 0);
        check.due("question()", camp.question(), NONE);
        check.due("shared(0, 0)", camp.shared(0, 0), 0);
        check.due("sound(63)", camp.sound(63), 0);
        check.due("of another camp", new Fieldgrammar().sound(63), 0);
    }

    private static void sound() {
        check.promise(2, "Takes a sound up.");
        Fieldgrammar camp = new Fieldgrammar();
        check.due("sound(7)", camp.sound(7), 0);
        check.due("put(0)", camp.put(0), 1);
        check.promise(2, "Returns its number.");
        check.due("sound(0)", camp.sound(0), 1);
        check.throwing("sound(7) again", Check.STATE, () -> camp.sound(7));
        check.due("sound(6)", camp.sound(6), 2);
    }

    private static void kind() {
        check.promise(3, "Makes a class.");
        Fieldgrammar camp = Check.camp(2);
        check.due("kind(0, 0)", camp.kind(0, 0), 0);
        check.promise(3, "Returns its number.");
        check.due("kind(0, 0), the same again", camp.kind(0, 0), 1);
        check.throwing("kind(0, 64)", Check.ARGUMENT, () -> camp.kind(0, 64));
        check.due("kind(1, 1)", camp.kind(1, 1), 2);
    }

    private static void put() {
        check.promise(4, "Puts a sound behind the draft.");
        Fieldgrammar camp = Check.camp(3);
        camp.put(2);
        camp.put(0);
        camp.put(0);
        camp.put(1);
        check.due("the word", Check.spoken(camp, camp.lexeme(), 0), "2 0 0 1");
        check.promise(4, "Returns how many it has then.");
        for (int size = 1; size <= 8; size++) {
            check.due("put(0)", camp.put(0), size);
        }
    }

    private static void wipe() {
        check.promise(5, "Empties the draft; returns how many sounds it had.");
        Fieldgrammar camp = Check.camp(2);
        check.due("of an empty one", camp.wipe(), 0);
        for (int size = 1; size <= 8; size++) {
            for (int put = 0; put < size; put++) {
                camp.put(1);
            }
            check.due("wipe()", camp.wipe(), size);
            check.due("wipe() again", camp.wipe(), 0);
        }
        camp.put(0);
        check.due("nothing is left of it", Check.spoken(camp, camp.lexeme(), 0), "0");
    }

    private static void lexeme() {
        check.promise(6, "Makes a lexeme with the form of the draft.");
        Fieldgrammar camp = Check.camp(3);
        Check.draft(camp, 2, 1, 0, 0, 1, 2);
        check.due("lexeme()", camp.lexeme(), 0);
        check.due("its word", Check.spoken(camp, 0, 0), "2 1 0 0 1 2");
        check.promise(6, "Returns its number.");
        check.throwing("lexeme() of none", Check.STATE, () -> camp.lexeme());
        check.due("lexeme()", Check.lexeme(camp, 1), 1);
        camp.split(0, 1);
        check.due("lexeme() behind a split", Check.lexeme(camp, 1), 3);
    }

    private static void reform() {
        check.promise(7, "Gives a lexeme the form of the draft, in place of its own one.");
        Fieldgrammar camp = Check.campWithThree();
        Check.exception(camp, 1, 7, 3, 3);
        Check.word(camp, 1, 0, 0, 2, 3);
        check.due("a word does not fit", camp.ofWord(0, 4), 0);
        Check.draft(camp, 2, 3).reform(1);
        check.due("its word", Check.spoken(camp, 1, 0), "2 3");
        check.due("the word fits", camp.ofWord(0, 4), 1);
        check.due("its exception stays", Check.spoken(camp, 1, 7), "3 3");
        check.due("another lexeme", Check.spoken(camp, 2, 0), "2");
        for (int cell = 0; cell < 8; cell++) {
            Check.exception(camp, 2, cell, 3, 3);
        }
        Check.draft(camp, 1).reform(2);
        for (int cell = 0; cell < 8; cell++) {
            check.due("its exception stays", Check.spoken(camp, 2, cell), "3 3");
        }
    }

    private static void ending() {
        check.promise(8, "Gives a cell the draft as its ending.");
        Fieldgrammar camp = Check.campWithThree();
        Check.ending(camp, 4, 3, 2);
        check.due("of each lexeme", Check.spoken(camp, 0, 4), "0 3 2");
        check.due("of each lexeme", Check.spoken(camp, 2, 4), "2 3 2");
        check.due("of that cell alone", Check.spoken(camp, 2, 5), "2");
        Check.ending(camp, 4, 1);
        check.due("another one", Check.spoken(camp, 0, 4), "0 1");
        check.due("of lexemes that are made since", Check.spoken(camp, Check.lexeme(camp, 3), 4), "3 1");
    }

    private static void rule() {
        check.promise(9, "Makes a rule, the last one in the order.");
        Fieldgrammar camp = Check.camp(2);
        int all = camp.kind(0, 0);
        camp.rule(all, 1, ANY, ANY);
        camp.rule(all, 1, ANY, ANY);
        camp.raise(1);
        camp.turn(0, false);
        check.promise(9, "Returns its number.");
        check.due("rule", camp.rule(all, 1, ANY, ANY), 2);
        check.due("rule", camp.rule(all, 1, ANY, ANY), 3);
        check.promise(9, "the last one in the order.");
        check.due("raise(3)", camp.raise(3), 2);
        check.due("raise(2), last now", camp.raise(2), 2);
    }

    private static void turn() {
        check.promise(10, "Lets a rule be on, or off.");
        Fieldgrammar camp = Check.camp(2);
        Check.lexeme(camp, 0);
        camp.rule(camp.kind(0, 0), 1, ANY, ANY);
        camp.turn(0, false);
        check.due("off", Check.spoken(camp, 0, 0), "0");
        camp.turn(0, true);
        check.due("on", Check.spoken(camp, 0, 0), "1");
        check.promise(10, "Returns whether that changes something.");
        check.due("turn(0, true), on", camp.turn(0, true), false);
        check.due("turn(0, false)", camp.turn(0, false), true);
        check.due("turn(0, false), off", camp.turn(0, false), false);
        check.due("turn(0, true)", camp.turn(0, true), true);
    }

    private static void raise() {
        check.promise(11, "Lets a rule change places with the one ahead of it in the order.");
        Fieldgrammar camp = Check.camp(1);
        int all = camp.kind(0, 0);
        for (int rule = 0; rule < 6; rule++) {
            camp.rule(all, 1, ANY, ANY);
        }
        check.promise(11, "Returns its place then, from 0 on");
        for (int place = 4; place >= 0; place--) {
            check.due("raise(5)", camp.raise(5), place);
        }
        check.promise(11, "the first one stays.");
        check.due("raise(5), the first one", camp.raise(5), 0);
        check.due("raise(4), the last one then", camp.raise(4), 4);
        check.due("raise(3), the last one then", camp.raise(3), 4);
        check.due("raise(0), the second one still", camp.raise(0), 0);
        check.due("raise(1), the third one still", camp.raise(1), 1);
    }

    /** The order is one of all rules: one that is off has its place in it. */
    private static void raiseOfOneThatIsOff() {
        check.promise(11, "the one ahead of it in the order");
        Fieldgrammar camp = Check.camp(1);
        int all = camp.kind(0, 0);
        for (int rule = 0; rule < 3; rule++) {
            camp.rule(all, 1, ANY, ANY);
        }
        camp.turn(1, false);
        check.due("raise(2) past one that is off", camp.raise(2), 1);
        check.due("raise(1), off", camp.raise(1), 1);
        check.due("raise(1), off", camp.raise(1), 0);
        check.due("raise(2)", camp.raise(2), 1);
    }

    private static void hear() {
        check.promise(12, "Hears a word, with the draft as its form.");
        Fieldgrammar camp = Check.campWithThree();
        check.due("hear of one sound", Check.word(camp, 2, 4, 1, 2), 0);
        check.due("it fits", camp.ofWord(0, 4), 1);
        check.promise(12, "Returns its number.");
        check.due("hear(2, 4, 1), the same, empty", camp.hear(2, 4, 1), 1);
        check.throwing("hear(2, 4, 4)", Check.BOUNDS, () -> camp.hear(2, 4, 4));
        camp.forget(1);
        check.due("hear(2, 4, 1) behind one that is forgotten", camp.hear(2, 4, 1), 2);
    }

    private static void correct() {
        check.promise(13, "Gives a word the draft as its form, in place of its own one.");
        Fieldgrammar camp = Check.campWithThree();
        Check.word(camp, 1, 3, 2, 0, 2);
        Check.word(camp, 1, 3, 2, 0, 2);
        Check.draft(camp, 1).correct(0);
        check.due("it fits", camp.ofWord(0, 4), 1);
        check.due("another one does not", camp.ofWord(1, 4), 0);
        check.due("its lexeme stays", camp.ofWord(0, 0), 1);
        check.due("its cell stays", camp.ofWord(0, 1), 3);
        check.due("its speaker stays", camp.ofWord(0, 2), 2);
        check.promise(13, "Returns whether it is another one.");
        check.due("the same", Check.draft(camp, 0, 2).correct(1), false);
        check.due("another order", Check.draft(camp, 2, 0).correct(1), true);
        check.due("a longer one", Check.draft(camp, 2, 0, 0).correct(1), true);
        check.due("another last one", Check.draft(camp, 2, 0, 1).correct(1), true);
        check.due("another first one", Check.draft(camp, 1, 0, 1).correct(1), true);
        check.due("an empty one", camp.correct(1), true);
        check.due("an empty one again", camp.correct(1), false);
    }

    private static void forget() {
        check.promise(14, "Forgets a word, for good.");
        Fieldgrammar camp = Check.campWithThree();
        for (int word = 0; word < 3; word++) {
            Check.word(camp, word, 0, 0, 3);
        }
        camp.forget(1);
        check.due("misfit(1)", camp.misfit(1), 2);
        check.due("holes(1)", camp.holes(1), 255);
        check.due("merge(1, 0)", camp.merge(1, 0), 0);
        camp.undo();
        check.throwing("correct(1)", Check.BOUNDS, () -> camp.correct(1));
        check.promise(14, "Returns how many are left.");
        check.due("forget(0)", camp.forget(0), 1);
        check.due("forget(2), the last one", camp.forget(2), 0);
        camp.hear(0, 0, 0);
        camp.hear(0, 0, 0);
        check.due("forget(4)", camp.forget(4), 1);
    }

    private static void except() {
        check.promise(15, "Names an exception, with the draft as its form, in place of the one that may be there");
        Fieldgrammar camp = Check.campWithThree();
        camp.put(3);
        check.due("the first one", camp.except(1, 2, true), false);
        check.due("its form", Check.spoken(camp, 1, 2), "3");
        Check.draft(camp, 2, 2);
        check.promise(15, "Returns whether there was one.");
        check.due("another one", camp.except(1, 2, true), true);
        check.due("its form", Check.spoken(camp, 1, 2), "2 2");
        check.due("of another cell", camp.except(1, 3, true), false);
        check.due("of another lexeme", camp.except(2, 2, true), false);
        check.due("one as the word would be", Check.exception(camp, 0, 0, 0), false);
        check.due("it is one all the same", camp.except(0, 0, false), true);
    }

    private static void exceptTakenBack() {
        check.promise(15, "or takes it back; the draft stays then.");
        Fieldgrammar camp = Check.campWithThree();
        Check.exception(camp, 1, 2, 3);
        Check.draft(camp, 3, 3, 3);
        check.due("of another cell", camp.except(1, 1, false), false);
        check.due("of another lexeme", camp.except(2, 2, false), false);
        check.due("the draft stays", camp.wipe(), 3);
        Check.draft(camp, 3, 3);
        check.due("taken back", camp.except(1, 2, false), true);
        check.due("the draft stays", camp.wipe(), 2);
        check.due("its word", Check.spoken(camp, 1, 2), "1");
        check.due("taken back again", camp.except(1, 2, false), false);
    }

    private static void merge() {
        check.promise(16, "Merges a lexeme into another one.");
        Fieldgrammar camp = Check.campWithThree();
        for (int word = 0; word < 40; word++) {
            camp.hear(word % 2, 0, 0);
        }
        camp.forget(38);
        check.promise(16, "Returns how many words are moved.");
        check.due("merge(2, 1), none", camp.merge(2, 1), 0);
        check.due("merge(0, 1), all but the forgotten one", camp.merge(0, 1), 19);
        check.due("lexeme of 0", camp.ofWord(0, 0), 1);
    }

    private static void split() {
        check.promise(17, "Splits a lexeme.");
        Fieldgrammar camp = Check.campWithThree();
        Check.word(camp, 1, 4, 0, 1);
        check.promise(17, "Returns the number of the new one.");
        check.due("split(1, 16)", camp.split(1, 16), 3);
        check.due("lexeme of 0", camp.ofWord(0, 0), 3);
        check.due("lexeme()", Check.lexeme(camp, 0), 4);
        check.due("split(3, 16)", camp.split(3, 16), 5);
        camp.undo();
        check.due("split(3, 16) again", camp.split(3, 16), 6);
    }

    private static void undo() {
        check.promise(18, "Takes back the latest merge or split that was not taken back.");
        Fieldgrammar camp = Check.campWithThree();
        camp.merge(0, 1);
        camp.split(1, 1);
        camp.merge(3, 2);
        check.promise(18, "Returns how many are left.");
        check.due("undo() of three", camp.undo(), 2);
        check.due("holes(3)", camp.holes(3), 255);
        check.due("undo() of two", camp.undo(), 1);
        check.throwing("holes(3)", Check.BOUNDS, () -> camp.holes(3));
        camp.split(1, 2);
        check.due("undo() of a later one", camp.undo(), 1);
        check.due("undo() of one", camp.undo(), 0);
        check.due("holes(0)", camp.holes(0), 255);
    }

    private static void length() {
        check.promise(19, "Returns how long the word of a lexeme in a cell is.");
        Fieldgrammar camp = Check.camp(2);
        for (int size = 1; size <= 6; size++) {
            int[] form = new int[size];
            int lexeme = Check.lexeme(camp, form);
            check.due("length", camp.length(lexeme, 0), size);
        }
        Check.ending(camp, 7, 1, 1);
        check.due("with the longest ending", camp.length(5, 7), 8);
        camp.rule(camp.kind(0, 1), 0, ANY, ANY);
        check.due("when all but the ending are left out", camp.length(5, 7), 2);
        check.due("when all are left out", camp.length(5, 0), 0);
        Check.exception(camp, 5, 0, 1, 1, 1);
        check.due("of an exception", camp.length(5, 0), 3);
    }

    private static void at() {
        check.promise(20, "Returns a sound of the word of a lexeme in a cell.");
        Fieldgrammar camp = Check.camp(16);
        Check.lexeme(camp, 15, 14, 13, 12, 11, 10);
        Check.ending(camp, 7, 9, 8);
        check.promise(20, "Returns the sound; NONE if it is not so long.");
        for (int place = 0; place < 8; place++) {
            check.due("at(0, 7, " + place + ")", camp.at(0, 7, place), 15 - place);
        }
        check.due("at(0, 7, 8)", camp.at(0, 7, 8), NONE);
        check.due("at(0, 0, 5)", camp.at(0, 0, 5), 10);
        check.due("at(0, 0, 6)", camp.at(0, 0, 6), NONE);
        Check.exception(camp, 0, 1);
        check.due("at(0, 1, 0) of an empty word", camp.at(0, 1, 0), NONE);
    }

    private static void step() {
        check.promise(21, "Returns how many sounds a rule turns or leaves out as a word is derived");
        Fieldgrammar camp = Check.camp(2);
        int odd = camp.kind(1, 0);
        Check.lexeme(camp, 1, 0, 1, 0, 1, 1);
        Check.ending(camp, 1, 0, 1);
        camp.rule(odd, 0, ANY, EDGE);
        camp.rule(odd, 1, ANY, ANY);
        camp.rule(odd, 0, ANY, ANY);
        check.promise(21, "Returns how many; 0 if it is off.");
        check.due("one left out", camp.step(0, 0, 0), 1);
        check.due("three turned", camp.step(0, 0, 1), 3);
        check.due("four turned", camp.step(0, 1, 1), 4);
        check.due("none left for it", camp.step(0, 0, 2), 0);
        camp.turn(1, false);
        check.due("off", camp.step(0, 0, 1), 0);
        check.due("three left out", camp.step(0, 0, 2), 3);
        camp.turn(0, false);
        check.due("off", camp.step(0, 0, 0), 0);
        check.due("four left out", camp.step(0, 0, 2), 4);
        camp.turn(1, true);
        camp.raise(2);
        check.due("four left out ahead of the rule that turns", camp.step(0, 0, 2), 4);
        check.due("none left for that one", camp.step(0, 0, 1), 0);
    }

    private static void stepWithExceptions() {
        check.promise(21, "whether or not there is an exception.");
        Fieldgrammar camp = Check.camp(2);
        Check.lexeme(camp, 0, 0);
        camp.rule(camp.kind(0, 1), 1, ANY, ANY);
        check.due("without", camp.step(0, 0, 0), 2);
        Check.exception(camp, 0, 0, 0, 0, 0, 0);
        check.due("with", camp.step(0, 0, 0), 2);
        camp.except(0, 0, true);
        check.due("with an empty one", camp.step(0, 0, 0), 2);
    }

    private static void ofWord() {
        check.promise(22, "Tells of a word that was heard.");
        Fieldgrammar camp = Check.campWithThree();
        Check.word(camp, 2, 6, 3, 2);
        check.promise(22, "Returns as told.");
        int[] answers = {2, 6, 3, 1, 1};
        for (int what = 0; what < 5; what++) {
            check.due("ofWord(0, " + what + ")", camp.ofWord(0, what), answers[what]);
        }
        camp.merge(2, 1);
        check.due("its lexeme then", camp.ofWord(0, 0), 1);
        check.due("whether it fits then", camp.ofWord(0, 4), 0);
    }

    private static void misfit() {
        check.promise(23, "Returns a word that does not fit, by rising numbers.");
        Fieldgrammar camp = Check.campWithThree();
        for (int word = 0; word < 7; word++) {
            Check.word(camp, 0, 0, 0, word % 3);
        }
        camp.forget(4);
        check.promise(23, "Returns the word; NONE if there are not so many.");
        check.due("misfit(0)", camp.misfit(0), 1);
        check.due("misfit(1)", camp.misfit(1), 2);
        check.due("misfit(2), one is forgotten", camp.misfit(2), 5);
        check.due("misfit(3)", camp.misfit(3), NONE);
        Check.exception(camp, 0, 0, 1);
        check.due("misfit(0) by an exception", camp.misfit(0), 0);
        check.due("misfit(1)", camp.misfit(1), 2);
    }

    /** Rule 0 turns the even sound of each word; the words 0 to 2 fit, 3 and 4 would without it, 5 fits neither way. */
    private static Fieldgrammar campWithClaims() {
        Fieldgrammar camp = Check.campWithThree();
        camp.rule(camp.kind(0, 1), 1, ANY, ANY);
        Check.word(camp, 0, 0, 0, 1);
        Check.word(camp, 0, 1, 0, 1);
        Check.word(camp, 1, 0, 0, 1);
        Check.word(camp, 0, 0, 0, 0);
        Check.word(camp, 2, 0, 0, 2);
        Check.word(camp, 2, 0, 0, 2, 2);
        return camp;
    }

    private static void claims() {
        check.promise(24, "Counts the words that support a rule, or contradict it.");
        Fieldgrammar camp = campWithClaims();
        check.promise(24, "Returns how many");
        check.due("claims(0, true)", camp.claims(0, true), 2);
        check.due("claims(0, false)", camp.claims(0, false), 2);
        camp.forget(0);
        camp.forget(4);
        check.due("claims(0, true), one is forgotten", camp.claims(0, true), 1);
        check.due("claims(0, false), one is forgotten", camp.claims(0, false), 1);
    }

    private static void claimsOfARuleThatIsOff() {
        check.promise(24, "0 if it is off.");
        Fieldgrammar camp = campWithClaims();
        camp.turn(0, false);
        check.due("claims(0, true)", camp.claims(0, true), 0);
        check.due("claims(0, false)", camp.claims(0, false), 0);
    }

    private static void fitting() {
        check.promise(25, "Counts the sets of rules that fit.");
        Fieldgrammar camp = Check.camp(2);
        Check.lexeme(camp, 0);
        check.due("no rules, no words", camp.fitting(), 1);
        Check.word(camp, 0, 0, 0, 1);
        check.due("no rules, a word that does not fit", camp.fitting(), 0);
        int all = camp.kind(0, 0);
        for (int rule = 0; rule < 6; rule++) {
            camp.rule(all, 1, ANY, ANY);
            check.due("an odd number of " + rule + " and one", camp.fitting(), 1 << rule);
        }
        camp.forget(0);
        check.due("all sets of 6", camp.fitting(), 64);
    }

    private static void smallest() {
        check.promise(26, "Returns the set of rules with the fewest rules that fits");
        Fieldgrammar camp = Check.camp(8);
        int all = camp.kind(0, 0);
        Check.lexeme(camp, 0);
        camp.rule(all, 1, ANY, ANY);
        camp.rule(all, 2, ANY, ANY);
        camp.rule(all, 3, ANY, ANY);
        check.promise(26, "Returns the bits; NONE if none fits.");
        check.due("the empty set", camp.smallest(), 0);
        Check.word(camp, 0, 0, 0, 3);
        check.due("one rule of higher bits than two", camp.smallest(), 4);
        Check.draft(camp, 4).correct(0);
        check.due("none fits", camp.smallest(), NONE);
        camp.rule(all, 4, ANY, ANY);
        camp.rule(camp.kind(0, 1), 0, ANY, ANY);
        camp.rule(camp.kind(4, 0), 4, ANY, ANY);
        check.due("one rule of four bits", camp.smallest(), 8);
        Check.draft(camp, 7).correct(0);
        check.due("two rules", camp.smallest(), 4 + 8);
    }

    private static void smallestOfSeveral() {
        check.promise(26, "of several the least as bits, that of the rule 0 lowest.");
        Fieldgrammar camp = Check.camp(4);
        int all = camp.kind(0, 0);
        int none = camp.kind(63, 0);
        Check.lexeme(camp, 0);
        camp.rule(none, 1, ANY, ANY);
        camp.rule(all, 1, ANY, ANY);
        camp.rule(all, 1, ANY, ANY);
        camp.rule(all, 2, ANY, ANY);
        camp.rule(all, 1, ANY, ANY);
        camp.rule(all, 2, ANY, ANY);
        Check.word(camp, 0, 0, 0, 1);
        check.due("rule 1, 2 or 4", camp.smallest(), 2);
        Check.draft(camp, 3).correct(0);
        check.due("rules 1 and 3, and others", camp.smallest(), 2 + 8);
        camp.raise(5);
        camp.raise(4);
        check.due("whatever the order", camp.smallest(), 2 + 8);
        Check.draft(camp, 2).correct(0);
        check.due("rule 3 or 5", camp.smallest(), 8);
    }

    private static void question() {
        check.promise(27, "Returns the question: 8 times the lexeme and the cell, together; NONE if there is none.");
        Fieldgrammar camp = Check.camp(8);
        int four = camp.kind(4, 0);
        for (int lexeme = 0; lexeme < 16; lexeme++) {
            Check.lexeme(camp, lexeme == 15 ? 1 : 0);
        }
        check.due("no rules", camp.question(), NONE);
        camp.rule(camp.kind(1, 0), 0, ANY, four);
        check.due("no cell is split", camp.question(), NONE);
        Check.ending(camp, 7, 4);
        check.due("the last cell of the last lexeme", camp.question(), 127);
        Check.ending(camp, 0, 4);
        check.due("the first cell of the last lexeme", camp.question(), 120);
        Check.draft(camp, 1).reform(0);
        check.due("the first cell of the first lexeme", camp.question(), 0);
        camp.except(0, 0, true);
        check.due("the last cell of the first lexeme", camp.question(), 7);
    }

    private static void pairs() {
        check.promise(28, "Counts the pairs that prove the contrast of two sounds.");
        Fieldgrammar camp = Check.campWithThree();
        check.promise(28, "Returns how many.");
        check.due("no words", camp.pairs(0, 1), 0);
        for (int word = 0; word < 40; word++) {
            Check.word(camp, word % 2, 0, 0, word % 2);
        }
        check.due("20 words and 20", camp.pairs(0, 1), 400);
        camp.forget(39);
        check.due("20 words and 19", camp.pairs(1, 0), 380);
        check.due("other sounds", camp.pairs(1, 2), 0);
    }

    private static void holes() {
        check.promise(29, "Returns the cells in which no word of a lexeme was heard, bits, that of 0 lowest.");
        Fieldgrammar camp = Check.campWithThree();
        int left = 255;
        for (int cell = 0; cell < 8; cell++) {
            check.due("holes(1)", camp.holes(1), left);
            camp.hear(1, cell, 0);
            left -= 1 << cell;
        }
        check.due("holes(1), none", camp.holes(1), 0);
        check.due("holes(0), of another lexeme", camp.holes(0), 255);
        camp.forget(7);
        check.due("holes(1), a word forgotten", camp.holes(1), 128);
        Check.exception(camp, 1, 7, 1);
        check.due("holes(1), an exception is no word", camp.holes(1), 128);
    }

    private static void shared() {
        check.promise(30, "Counts the cells of lexemes in which two speakers were heard with some form alike");
        Fieldgrammar camp = Check.campWithThree();
        check.promise(30, "Returns how many.");
        check.due("no words", camp.shared(0, 1), 0);
        for (int cell = 0; cell < 8; cell++) {
            camp.hear(0, cell, 0);
            camp.hear(0, cell, 1);
            camp.hear(2, cell, 0);
            camp.hear(2, cell, 1);
        }
        check.due("all cells of two lexemes", camp.shared(0, 1), 16);
        Check.draft(camp, 1).correct(0);
        check.due("one of unlike forms", camp.shared(0, 1), 15);
        Check.word(camp, 0, 0, 1, 1);
        check.due("alike with another word", camp.shared(1, 0), 16);
        camp.hear(0, 0, 0);
        check.due("alike with two", camp.shared(0, 1), 16);
        camp.forget(31);
        check.due("one forgotten", camp.shared(0, 1), 15);
        check.due("speakers that were not heard", camp.shared(2, 3), 0);
    }

    private static void sharedOfOneAndTheSame() {
        check.promise(30, "of one and the same those in which it was heard.");
        Fieldgrammar camp = Check.campWithThree();
        check.due("no words", camp.shared(3, 3), 0);
        Check.word(camp, 0, 7, 3, 1);
        check.due("one word", camp.shared(3, 3), 1);
        Check.word(camp, 0, 7, 3, 2);
        check.due("two of one cell, of unlike forms", camp.shared(3, 3), 1);
        Check.word(camp, 1, 7, 3, 2);
        Check.word(camp, 1, 0, 3);
        check.due("two cells more", camp.shared(3, 3), 3);
        camp.forget(2);
        check.due("one forgotten", camp.shared(3, 3), 2);
        check.due("another speaker", camp.shared(2, 2), 0);
    }
}
