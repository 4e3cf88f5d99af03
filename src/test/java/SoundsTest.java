/** Promises 1 to 5: a new object, sound, kind, put, wipe. */
public final class SoundsTest {
    private static final Check check = new Check();

    public static void main(String[] args) {
        newObject();
        newObjectHasNothing();
        objectsAreApart();
        sound();
        soundLimit();
        kind();
        kindTakesSounds();
        put();
        wipe();
        check.close();
    }

    private static void newObject() {
        Fieldgrammar camp = new Fieldgrammar();
        check.due("fitting()", camp.fitting(), 1);
        check.due("smallest()", camp.smallest(), 0);
        check.due("question()", camp.question(), Fieldgrammar.NONE);
        check.due("misfit(0)", camp.misfit(0), Fieldgrammar.NONE);
        check.due("shared(0, 3)", camp.shared(0, 3), 0);
        check.due("wipe()", camp.wipe(), 0);
        check.due("NONE", Fieldgrammar.NONE, -1);
        check.due("ANY", Fieldgrammar.ANY, -1);
        check.due("EDGE", Fieldgrammar.EDGE, -2);
    }

    private static void newObjectHasNothing() {
        Fieldgrammar camp = new Fieldgrammar();
        check.throwing("put(0)", Check.BOUNDS, () -> camp.put(0));
        check.throwing("pairs(0, 1)", Check.BOUNDS, () -> camp.pairs(0, 1));
        check.throwing("lexeme()", Check.STATE, () -> camp.lexeme());
        check.throwing("length(0, 0)", Check.BOUNDS, () -> camp.length(0, 0));
        check.throwing("holes(0)", Check.BOUNDS, () -> camp.holes(0));
        check.throwing("rule(0, 1, ANY, ANY)", Check.BOUNDS, () -> camp.rule(0, 1, -1, -1));
        check.throwing("claims(0, true)", Check.BOUNDS, () -> camp.claims(0, true));
        check.throwing("forget(0)", Check.BOUNDS, () -> camp.forget(0));
        check.throwing("undo()", Check.STATE, () -> camp.undo());
    }

    private static void objectsAreApart() {
        Fieldgrammar one = Check.camp(2);
        Fieldgrammar other = Check.camp(1);
        one.put(0);
        check.due("wipe() of another object", other.wipe(), 0);
        check.throwing("put(1) of another object", Check.BOUNDS, () -> other.put(1));
    }

    private static void sound() {
        Fieldgrammar camp = new Fieldgrammar();
        check.due("sound(63)", camp.sound(63), 0);
        check.throwing("sound(64)", Check.ARGUMENT, () -> camp.sound(64));
        check.throwing("sound(-1)", Check.ARGUMENT, () -> camp.sound(-1));
        check.throwing("sound(MAX)", Check.ARGUMENT, () -> camp.sound(Integer.MAX_VALUE));
        check.throwing("sound(MIN)", Check.ARGUMENT, () -> camp.sound(Integer.MIN_VALUE));
        check.throwing("sound(63) again", Check.STATE, () -> camp.sound(63));
        check.throwing("put(1)", Check.BOUNDS, () -> camp.put(1));
        check.due("sound(0)", camp.sound(0), 1);
        check.due("sound(5)", camp.sound(5), 2);
        check.throwing("sound(0) again", Check.STATE, () -> camp.sound(0));
    }

    private static void soundLimit() {
        Fieldgrammar camp = Check.camp(15);
        check.due("sound(40), the 16th", camp.sound(40), 15);
        check.throwing("sound(41), the 17th", Check.STATE, () -> camp.sound(41));
        check.throwing("sound(64) with 16", Check.ARGUMENT, () -> camp.sound(64));
        check.due("put(15)", camp.put(15), 1);
        check.throwing("put(16)", Check.BOUNDS, () -> camp.put(16));
    }

    private static void kind() {
        Fieldgrammar camp = Check.camp(1);
        check.throwing("kind(-1, 0)", Check.ARGUMENT, () -> camp.kind(-1, 0));
        check.throwing("kind(0, -1)", Check.ARGUMENT, () -> camp.kind(0, -1));
        check.throwing("kind(64, 0)", Check.ARGUMENT, () -> camp.kind(64, 0));
        check.throwing("kind(0, 64)", Check.ARGUMENT, () -> camp.kind(0, 64));
        for (int number = 0; number < 11; number++) {
            check.due("kind(3, 3)", camp.kind(3, 3), number);
        }
        check.due("kind(63, 63), the 12th", camp.kind(63, 63), 11);
        check.throwing("kind(0, 0), the 13th", Check.STATE, () -> camp.kind(0, 0));
        check.throwing("kind(0, 64) with 12", Check.ARGUMENT, () -> camp.kind(0, 64));
        check.throwing("rule(12, 0, ANY, ANY)", Check.BOUNDS, () -> camp.rule(12, 0, -1, -1));
        check.due("rule(11, 0, ANY, ANY)", camp.rule(11, 0, -1, -1), 0);
    }

    /** A class takes the sounds that have all that it needs and nothing that it bars, those of later calls too. */
    private static void kindTakesSounds() {
        Fieldgrammar camp = Check.camp(7);
        int kind = camp.kind(1, 2);
        camp.sound(13);
        camp.sound(15);
        camp.rule(kind, 0, Fieldgrammar.ANY, Fieldgrammar.ANY);
        int lexeme = Check.lexeme(camp, 0, 1, 2, 3, 4, 5);
        check.due("left by class 1, 2", Check.spoken(camp, lexeme, 0), "0 2 3 4");
        int later = Check.lexeme(camp, 6, 7, 8);
        check.due("left of later sounds", Check.spoken(camp, later, 0), "6 8");
        int withoutOne = camp.kind(0, 1);
        camp.sound(17);
        camp.sound(18);
        camp.turn(0, false);
        camp.rule(withoutOne, 0, Fieldgrammar.ANY, Fieldgrammar.ANY);
        int latest = Check.lexeme(camp, 9, 10, 7);
        check.due("left of the latest sounds", Check.spoken(camp, latest, 0), "9 7");
    }

    private static void put() {
        Fieldgrammar camp = Check.camp(2);
        int lexeme = Check.lexeme(camp, 1);
        for (int size = 1; size <= 8; size++) {
            check.due("put", camp.put(size % 2), size);
        }
        check.throwing("put(0), the 9th", Check.STATE, () -> camp.put(0));
        check.throwing("put(2) with 8", Check.BOUNDS, () -> camp.put(2));
        check.throwing("put(-1)", Check.BOUNDS, () -> camp.put(-1));
        check.throwing("put(MAX)", Check.BOUNDS, () -> camp.put(Integer.MAX_VALUE));
        check.due("the draft", Check.draftOf(camp, lexeme, 7), "1 0 1 0 1 0 1 0");
    }

    private static void wipe() {
        Fieldgrammar camp = Check.camp(2);
        camp.put(1);
        camp.put(1);
        camp.put(0);
        check.due("wipe()", camp.wipe(), 3);
        check.due("wipe() again", camp.wipe(), 0);
        check.due("put(1)", camp.put(1), 1);
        check.due("length", camp.length(camp.lexeme(), 0), 1);
        for (int size = 1; size <= 8; size++) {
            camp.put(1);
        }
        check.due("wipe() of 8", camp.wipe(), 8);
    }
}
