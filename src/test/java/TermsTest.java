/** What "Terms" says of sounds, classes, the draft, lexemes, cells and words, and of how many there are: its edges. */
public final class TermsTest {
    private static final Check check = new Check();
    private static final int ANY = Fieldgrammar.ANY;

    public static void main(String[] args) {
        calls();
        constants();
        sounds();
        features();
        noTwoAlike();
        classes();
        ofAClass();
        ofAClassByManyFeatures();
        draft();
        lexemes();
        lexemesEver();
        forms();
        formsOfManySounds();
        cells();
        endings();
        draftIsTakenByLexemes();
        rules();
        words();
        wordsThatWereForgotten();
        formsOfWords();
        draftIsTakenByWords();
        draftIsTakenNowhereElse();
        check.close();
    }

    private static void calls() {
        check.term("An object is used for at most 512 calls after it has been made");
        Fieldgrammar camp = new Fieldgrammar();
        check.due("the first call", camp.sound(0), 0);
        for (int call = 2; call < 512; call += 2) {
            check.due("put(0)", camp.put(0), 1);
            check.due("wipe()", camp.wipe(), 1);
        }
        check.due("the 512th call", camp.sound(1), 1);
    }

    private static void constants() {
        check.term("`NONE = -1`: None");
        check.due("NONE", Fieldgrammar.NONE, -1);
        check.term("`ANY = -1, EDGE = -2`: ");
        check.due("ANY", Fieldgrammar.ANY, -1);
        check.due("EDGE", Fieldgrammar.EDGE, -2);
        check.term("A left or a right that is met by all, and one that is met by the end of the row");
        Fieldgrammar camp = Check.camp(2);
        int all = camp.kind(0, 0);
        camp.rule(all, 1, -1, -2);
        check.due("the last one", Check.spoken(camp, Check.lexeme(camp, 0, 0), 0), "0 1");
        camp.turn(0, false);
        camp.rule(all, 1, -2, -1);
        check.due("the first one", Check.spoken(camp, 0, 0), "1 0");
    }

    private static void sounds() {
        check.term("Sounds are numbered from 0, at most 16");
        Fieldgrammar camp = new Fieldgrammar();
        for (int number = 0; number < 16; number++) {
            check.due("sound", camp.sound(63 - number), number);
        }
        check.throwing("sound(0), the 17th", Check.STATE, () -> camp.sound(0));
        check.due("put(15), the last one", camp.put(15), 1);
        check.throwing("put(16)", Check.BOUNDS, () -> camp.put(16));
    }

    /** Each feature is a bit of its own: a class that needs it has the sound with it, and a rule turns it. */
    private static void features() {
        check.term("a sound has features, a set of 0 to 5, told as bits, that of 0 lowest");
        for (int feature = 0; feature <= 5; feature++) {
            Fieldgrammar camp = Check.camp(1);
            for (int other = 0; other <= 5; other++) {
                camp.sound(1 << other);
            }
            Check.lexeme(camp, 0, feature + 1, 0);
            camp.rule(camp.kind(1 << feature, 0), 0, ANY, ANY);
            check.due("left out by feature " + feature, Check.spoken(camp, 0, 0), "0 0");
            camp.turn(0, false);
            camp.rule(camp.kind(0, 0), 1 << feature, Fieldgrammar.EDGE, ANY);
            check.due("turned by feature " + feature, camp.at(0, 0, 0), feature + 1);
        }
    }

    private static void noTwoAlike() {
        check.term("no two have the same");
        for (int features = 0; features < 64; features++) {
            int same = features;
            Fieldgrammar camp = new Fieldgrammar();
            camp.sound(features);
            check.due("another one", camp.sound(63 - features), 1);
            check.throwing("the same, " + features, Check.STATE, () -> camp.sound(same));
            check.throwing("put(2)", Check.BOUNDS, () -> camp.put(2));
        }
    }

    private static void classes() {
        check.term("Classes are numbered from 0, at most 12");
        Fieldgrammar camp = Check.camp(2);
        for (int number = 0; number < 11; number++) {
            check.due("kind(0, 0)", camp.kind(0, 0), number);
        }
        check.due("kind(1, 0)", camp.kind(1, 0), 11);
        check.throwing("kind(0, 0), the 13th", Check.STATE, () -> camp.kind(0, 0));
        check.due("rule of class 11", camp.rule(11, 0, ANY, ANY), 0);
        check.throwing("rule of class 12", Check.BOUNDS, () -> camp.rule(12, 0, ANY, ANY));
        check.due("class 11 is the last one", Check.spoken(camp, Check.lexeme(camp, 0, 1), 0), "0");
    }

    /** Which of the sounds 0 to 3, with the features of their numbers, are not of a class. */
    private static String others(int needs, int bars) {
        Fieldgrammar camp = Check.camp(4);
        camp.rule(camp.kind(needs, bars), 0, ANY, ANY);
        return Check.spoken(camp, Check.lexeme(camp, 0, 1, 2, 3), 0);
    }

    private static void ofAClass() {
        check.term("a sound is of a class, if it has all features that the class needs");
        check.due("needs none", others(0, 0), "");
        check.due("needs 0", others(1, 0), "0 2");
        check.due("needs 1", others(2, 0), "0 1");
        check.due("needs both, not just one", others(3, 0), "0 1 2");
        check.due("needs one that no sound has", others(4, 0), "0 1 2 3");
        check.term("and none that it bars");
        check.due("bars 0", others(0, 1), "1 3");
        check.due("bars 1", others(0, 2), "2 3");
        check.due("bars both, and each of them", others(0, 3), "1 2 3");
        check.due("bars one that no sound has", others(0, 4), "");
        check.due("needs one, bars the other one", others(1, 2), "0 2 3");
        check.due("needs and bars the same", others(1, 1), "0 1 2 3");
    }

    private static void ofAClassByManyFeatures() {
        check.term("a sound is of a class, if it has all features that the class needs, and none that it bars");
        Fieldgrammar camp = new Fieldgrammar();
        camp.sound(0);
        int kind = camp.kind(33, 18);
        camp.sound(33);
        camp.sound(32);
        camp.sound(1);
        camp.sound(33 + 4 + 8);
        camp.sound(33 + 2);
        camp.sound(33 + 16);
        camp.sound(63);
        camp.rule(kind, 0, ANY, ANY);
        check.due("also of sounds taken up since", Check.spoken(camp, Check.lexeme(camp, 0, 1, 2, 3, 4), 0), "0 2 3");
        check.due("one that is barred is enough", Check.spoken(camp, Check.lexeme(camp, 5, 6, 7), 0), "5 6 7");
    }

    private static void draft() {
        check.term("The draft is a row of sounds, at most 8, perhaps none");
        Fieldgrammar camp = Check.camp(9);
        Check.lexeme(camp, 0);
        check.due("except by none", camp.except(0, 0, true), false);
        check.due("length of none", camp.length(0, 0), 0);
        for (int sound = 8; sound > 0; sound--) {
            check.due("put", camp.put(sound), 9 - sound);
        }
        check.throwing("put(0), the 9th", Check.STATE, () -> camp.put(0));
        camp.except(0, 1, true);
        check.due("a row in its order", Check.spoken(camp, 0, 1), "8 7 6 5 4 3 2 1");
        check.due("wipe()", camp.wipe(), 0);
    }

    private static void lexemes() {
        check.term("Lexemes are numbered from 0, at most 16 ever");
        Fieldgrammar camp = Check.camp(1);
        for (int number = 0; number < 15; number++) {
            check.due("lexeme()", Check.lexeme(camp, 0), number);
        }
        check.due("split(0, 1), the 16th", camp.split(0, 1), 15);
        camp.put(0);
        check.throwing("lexeme(), the 17th", Check.STATE, () -> camp.lexeme());
        check.throwing("split(0, 1), the 17th", Check.STATE, () -> camp.split(0, 1));
        check.due("length(15, 0)", camp.length(15, 0), 1);
        check.throwing("length(16, 0)", Check.BOUNDS, () -> camp.length(16, 0));
    }

    /** Those that are gone were there: their numbers are not given again. */
    private static void lexemesEver() {
        check.term("at most 16 ever");
        Fieldgrammar camp = Check.camp(1);
        Check.lexeme(camp, 0);
        for (int number = 1; number < 16; number++) {
            check.due("split(0, 1)", camp.split(0, 1), number);
            camp.undo();
        }
        check.throwing("split(0, 1), the 17th", Check.STATE, () -> camp.split(0, 1));
        camp.put(0);
        check.throwing("lexeme(), the 17th", Check.STATE, () -> camp.lexeme());
        check.due("length(0, 0)", camp.length(0, 0), 1);
        check.throwing("length(15, 0), gone", Check.BOUNDS, () -> camp.length(15, 0));
    }

    private static void forms() {
        check.term("a lexeme has a form, a row of 1 to 6 sounds");
        Fieldgrammar camp = Check.camp(7);
        check.throwing("lexeme() of none", Check.STATE, () -> camp.lexeme());
        check.due("lexeme() of 1", Check.lexeme(camp, 6), 0);
        check.due("its word", Check.spoken(camp, 0, 0), "6");
        check.due("lexeme() of 6", Check.lexeme(camp, 0, 1, 2, 3, 4, 5), 1);
        check.due("its word", Check.spoken(camp, 1, 0), "0 1 2 3 4 5");
        Check.draft(camp, 0, 1, 2, 3, 4, 5, 6);
        check.throwing("lexeme() of 7", Check.STATE, () -> camp.lexeme());
        camp.put(0);
        check.throwing("lexeme() of 8", Check.STATE, () -> camp.lexeme());
    }

    private static void formsOfManySounds() {
        check.term("a row of 1 to 6 sounds");
        Fieldgrammar camp = Check.camp(7);
        Check.lexeme(camp, 0);
        Check.draft(camp, 6, 5, 4, 3, 2, 1).reform(0);
        check.due("of 6", Check.spoken(camp, 0, 0), "6 5 4 3 2 1");
        Check.draft(camp, 6).reform(0);
        check.due("of 1", Check.spoken(camp, 0, 0), "6");
    }

    private static void cells() {
        check.term("There are the cells 0 to 7, each with an ending");
        Fieldgrammar camp = Check.camp(8);
        Check.lexeme(camp, 0);
        for (int cell = 0; cell < 8; cell++) {
            Check.ending(camp, cell, cell);
        }
        for (int cell = 0; cell < 8; cell++) {
            check.due("cell " + cell, Check.spoken(camp, 0, cell), "0 " + cell);
        }
        check.throwing("cell 8", Check.BOUNDS, () -> camp.length(0, 8));
        check.throwing("cell -1", Check.BOUNDS, () -> camp.length(0, -1));
    }

    private static void endings() {
        check.term("a row of at most 2 sounds, none at first");
        Fieldgrammar camp = Check.camp(2);
        Check.lexeme(camp, 0);
        for (int cell = 0; cell < 8; cell++) {
            check.due("at first", Check.spoken(camp, 0, cell), "0");
        }
        Check.ending(camp, 3, 1);
        check.due("of 1", Check.spoken(camp, 0, 3), "0 1");
        Check.ending(camp, 3, 1, 0);
        check.due("of 2", Check.spoken(camp, 0, 3), "0 1 0");
        Check.ending(camp, 3);
        check.due("of none", Check.spoken(camp, 0, 3), "0");
        Check.draft(camp, 1, 1, 1);
        check.throwing("of 3", Check.STATE, () -> Check.ended(camp, 3));
    }

    private static void draftIsTakenByLexemes() {
        check.term("lexemes, endings, rules; the draft is empty then, where it is taken");
        Fieldgrammar camp = Check.camp(2);
        int all = camp.kind(0, 0);
        Check.lexeme(camp, 1, 1);
        check.due("wipe() behind lexeme()", camp.wipe(), 0);
        Check.draft(camp, 1, 1, 1).reform(0);
        check.due("wipe() behind reform(0)", camp.wipe(), 0);
        Check.ending(camp, 0, 1, 1);
        check.due("wipe() behind ending(0)", camp.wipe(), 0);
        Check.draft(camp, 0, 1);
        camp.rule(all, 1, ANY, ANY);
        camp.turn(0, false);
        camp.raise(0);
        check.due("wipe() behind rule, turn, raise, which do not take it", camp.wipe(), 2);
    }

    private static void rules() {
        check.term("Rules are numbered from 0, at most 6");
        Fieldgrammar camp = Check.camp(1);
        int all = camp.kind(0, 0);
        for (int number = 0; number < 6; number++) {
            check.due("rule", camp.rule(all, 1, ANY, ANY), number);
        }
        check.throwing("rule, the 7th", Check.STATE, () -> camp.rule(all, 1, ANY, ANY));
        check.due("turn(5, false)", camp.turn(5, false), true);
        check.throwing("rule, the 7th, one is off", Check.STATE, () -> camp.rule(all, 1, ANY, ANY));
        check.throwing("turn(6, false)", Check.BOUNDS, () -> camp.turn(6, false));
    }

    private static void words() {
        check.term("Words are numbered from 0, at most 40");
        Fieldgrammar camp = Check.campWithThree();
        for (int number = 0; number < 40; number++) {
            check.due("hear", camp.hear(number % 3, number % 8, number % 4), number);
        }
        check.throwing("hear, the 41st", Check.STATE, () -> camp.hear(0, 0, 0));
        check.due("cell of 39", camp.ofWord(39, 1), 7);
        check.throwing("cell of 40", Check.BOUNDS, () -> camp.ofWord(40, 1));
        check.due("forget(39)", camp.forget(39), 39);
    }

    /** Words that were forgotten were there: their numbers are not given again. */
    private static void wordsThatWereForgotten() {
        check.term("at most 40");
        Fieldgrammar camp = Check.campWithThree();
        for (int number = 0; number < 40; number++) {
            check.due("hear", camp.hear(0, 0, 0), number);
            check.due("forget", camp.forget(number), 0);
        }
        check.throwing("hear, the 41st", Check.STATE, () -> camp.hear(0, 0, 0));
    }

    private static void formsOfWords() {
        check.term("a word is of a lexeme, a cell and a speaker, 0 to 3, and has a form");
        Fieldgrammar camp = Check.camp(16);
        Check.lexeme(camp, 0);
        Check.lexeme(camp, 1);
        int none = Check.word(camp, 1, 7, 3);
        int longest = Check.word(camp, 0, 0, 0, 15, 14, 13, 12, 11, 10, 9, 8);
        check.due("lexeme", camp.ofWord(none, 0), 1);
        check.due("cell", camp.ofWord(none, 1), 7);
        check.due("speaker", camp.ofWord(none, 2), 3);
        check.due("a form of none", camp.ofWord(none, 3), 0);
        check.due("lexeme", camp.ofWord(longest, 0), 0);
        check.due("cell", camp.ofWord(longest, 1), 0);
        check.due("speaker", camp.ofWord(longest, 2), 0);
        check.due("a form of 8", camp.ofWord(longest, 3), 8);
        Check.draft(camp, 15, 14, 13, 12, 11, 10, 9, 8);
        check.due("it has that form", camp.correct(longest), false);
    }

    private static void draftIsTakenByWords() {
        check.term("words, exceptions; the draft is empty then, where it is taken");
        Fieldgrammar camp = Check.campWithThree();
        Check.word(camp, 0, 0, 0, 1, 1);
        check.due("wipe() behind hear", camp.wipe(), 0);
        Check.draft(camp, 1, 1, 1).correct(0);
        check.due("wipe() behind correct", camp.wipe(), 0);
        Check.draft(camp, 1, 1, 1).correct(0);
        check.due("wipe() behind correct by the same", camp.wipe(), 0);
        Check.exception(camp, 0, 0, 1, 1);
        check.due("wipe() behind except", camp.wipe(), 0);
        Check.draft(camp, 2, 2, 2);
        camp.except(0, 0, false);
        camp.forget(0);
        check.due("wipe() behind taking back and forget, which do not take it", camp.wipe(), 3);
    }

    /** What neither takes nor changes the draft leaves it as it is: its two sounds are put once, and heard at last. */
    private static void draftIsTakenNowhereElse() {
        check.term("the draft is empty then, where it is taken");
        Fieldgrammar camp = Check.campWithThree();
        int word = Check.word(camp, 0, 0, 0, 0);
        int all = camp.kind(0, 0);
        int rule = camp.rule(all, 1, ANY, ANY);
        Check.draft(camp, 3, 1);
        camp.sound(4);
        camp.kind(0, 0);
        camp.rule(all, 2, ANY, ANY);
        camp.merge(1, 0);
        camp.split(0, 1);
        camp.undo();
        camp.length(0, 0);
        camp.at(0, 0, 0);
        camp.step(0, 0, rule);
        camp.ofWord(word, 4);
        camp.misfit(0);
        camp.claims(rule, true);
        camp.fitting();
        camp.smallest();
        camp.question();
        camp.pairs(0, 1);
        camp.holes(0);
        camp.shared(0, 1);
        camp.turn(rule, false);
        camp.raise(rule);
        camp.except(0, 7, true);
        check.due("the draft", Check.spoken(camp, 0, 7), "3 1");
    }
}
