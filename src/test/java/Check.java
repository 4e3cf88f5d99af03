import java.util.Objects;

/** Counts the answers that are not as due, and prints each. */
final class Check {
    interface Call {
        Object make();
    }

    static final Class<?> BOUNDS = IndexOutOfBoundsException.class;
    static final Class<?> ARGUMENT = IllegalArgumentException.class;
    static final Class<?> STATE = IllegalStateException.class;

    private int made;
    private int wrong;
    private String about = "";

    /** The answers behind this are about a sentence that stands ahead of the promises, or about a part of it. */
    void term(String sentence) {
        about = "\"" + sentence + "\": ";
    }

    /** The answers behind this are about a sentence of a promise, or about a part of it. */
    void promise(int number, String sentence) {
        about = "promise " + number + ", \"" + sentence + "\": ";
    }

    void due(String call, Object got, Object want) {
        made++;
        if (!Objects.equals(got, want)) {
            wrong++;
            System.out.println(about + call + " answered " + got + ", due is " + want);
        }
    }

    void throwing(String call, Class<?> want, Call made) {
        due(call, thrownBy(made), want);
    }

    /** What a call answers, or the class of what it throws. */
    static Object thrownBy(Call call) {
        try {
            return call.make();
        } catch (RuntimeException thrown) {
            return classOf(thrown, Fieldgrammar.class);
        }
    }

    /**
     * The class of what was thrown, if the code of the thrower threw it. What the machine or the library throws may be
     * of the class that is due, or of one below it, and is told apart by its class and where it comes from.
     */
    static Object classOf(Throwable thrown, Class<?> thrower) {
        StackTraceElement[] trace = thrown.getStackTrace();
        boolean isOwn = trace.length > 0 && trace[0].getClassName().startsWith(thrower.getName());
        return isOwn ? thrown.getClass() : thrown + ", not thrown by " + thrower.getName();
    }

    /** Ends the test: with 1, if an answer was wrong. */
    void close() {
        System.out.println(made + " answers, " + wrong + " not as due");
        if (wrong != 0) {
            System.exit(1);
        }
    }

    // ---- what many tests begin with

    static Fieldgrammar draft(Fieldgrammar camp, int... sounds) {
        camp.wipe();
        for (int sound : sounds) {
            camp.put(sound);
        }
        return camp;
    }

    static int lexeme(Fieldgrammar camp, int... sounds) {
        return draft(camp, sounds).lexeme();
    }

    static int word(Fieldgrammar camp, int lexeme, int cell, int speaker, int... sounds) {
        return draft(camp, sounds).hear(lexeme, cell, speaker);
    }

    static boolean exception(Fieldgrammar camp, int lexeme, int cell, int... sounds) {
        return draft(camp, sounds).except(lexeme, cell, true);
    }

    static void ending(Fieldgrammar camp, int cell, int... sounds) {
        draft(camp, sounds).ending(cell);
    }

    /** The calls that answer nothing, as ones that do, so that throwing takes them. */
    static Object reformed(Fieldgrammar camp, int lexeme) {
        camp.reform(lexeme);
        return "nothing";
    }

    static Object ended(Fieldgrammar camp, int cell) {
        camp.ending(cell);
        return "nothing";
    }

    /** A camp with the sounds 0 to count - 1, the features of each being its number as bits. */
    static Fieldgrammar camp(int count) {
        Fieldgrammar camp = new Fieldgrammar();
        for (int sound = 0; sound < count; sound++) {
            camp.sound(sound);
        }
        return camp;
    }

    /** A camp with four sounds and three lexemes, of one sound each. */
    static Fieldgrammar campWithThree() {
        Fieldgrammar camp = camp(4);
        lexeme(camp, 0);
        lexeme(camp, 1);
        lexeme(camp, 2);
        return camp;
    }

    /** The word of a lexeme in a cell, as a text like "0 3 1". */
    static String spoken(Fieldgrammar camp, int lexeme, int cell) {
        StringBuilder text = new StringBuilder();
        for (int place = 0; place < camp.length(lexeme, cell); place++) {
            text.append(place == 0 ? "" : " ").append(camp.at(lexeme, cell, place));
        }
        return text.toString();
    }

    /** What the draft holds, by way of an exception that is taken back; the draft is put again. */
    static String draftOf(Fieldgrammar camp, int lexeme, int freeCell) {
        camp.except(lexeme, freeCell, true);
        String text = spoken(camp, lexeme, freeCell);
        camp.except(lexeme, freeCell, false);
        for (String sound : text.isEmpty() ? new String[0] : text.split(" ")) {
            camp.put(Integer.parseInt(sound));
        }
        return text;
    }
}
