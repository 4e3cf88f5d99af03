import java.lang.reflect.InvocationTargetException;
import java.lang.reflect.Method;
import java.util.Arrays;
import java.util.Random;

/**
 * Random runs of all calls, right and wrong ones, on a Fieldgrammar and on a Model. As the model does not change when
 * it throws, a call of the class that throws and changes something is found by the answers behind it.
 */
public final class ModelTest {
    private static final int RUNS = 1500;
    // As many as the document promises of one object.
    private static final int CALLS = 512;
    private static final int[] ODD = {-1, -2, -3, 4, 5, 6, 8, 12, 16, 40, 63, 64, 255, 256, Integer.MAX_VALUE,
        Integer.MIN_VALUE};

    /** A call, how often it comes in the runs of each sort, and what its arguments are. */
    private record Sort(String name, int[] often, String... arguments) {
    }

    // The runs: of all calls, of rules and words, of merges and splits, and such as reach the limits.
    private static final Sort[] SORTS = {
        new Sort("sound", of(3, 1, 1, 6), "features"),
        new Sort("kind", of(3, 1, 1, 4), "needs", "bars"),
        new Sort("put", of(30, 3, 20, 30), "sound"),
        new Sort("wipe", of(1, 1, 1, 1)),
        new Sort("lexeme", of(5, 1, 4, 6)),
        new Sort("reform", of(2, 0, 1, 1), "lexeme"),
        new Sort("ending", of(4, 1, 1, 1), "cell"),
        new Sort("rule", of(3, 2, 1, 4), "kind", "turned", "side", "side"),
        new Sort("turn", of(3, 3, 1, 1), "rule", "boolean"),
        new Sort("raise", of(3, 1, 1, 1), "rule"),
        new Sort("hear", of(6, 0, 6, 15), "lexeme", "cell", "speaker"),
        new Sort("correct", of(3, 0, 1, 1), "word"),
        new Sort("forget", of(2, 3, 1, 1), "word"),
        new Sort("except", of(3, 2, 6, 1), "lexeme", "cell", "boolean"),
        new Sort("merge", of(2, 1, 6, 1), "lexeme", "lexeme"),
        new Sort("split", of(2, 1, 4, 1), "lexeme", "cells"),
        new Sort("undo", of(2, 1, 5, 1)),
        new Sort("length", of(3, 3, 4, 1), "lexeme", "cell"),
        new Sort("at", of(6, 8, 6, 2), "lexeme", "cell", "place"),
        new Sort("step", of(4, 6, 1, 1), "lexeme", "cell", "rule"),
        new Sort("ofWord", of(5, 4, 8, 2), "word", "what"),
        new Sort("misfit", of(4, 4, 3, 2), "place"),
        new Sort("claims", of(4, 6, 2, 2), "rule", "boolean"),
        new Sort("fitting", of(3, 5, 2, 1)),
        new Sort("smallest", of(3, 5, 2, 1)),
        new Sort("question", of(4, 8, 3, 1)),
        new Sort("pairs", of(3, 2, 4, 3), "sound", "sound"),
        new Sort("holes", of(3, 2, 5, 2), "lexeme"),
        new Sort("shared", of(3, 2, 4, 3), "speaker", "speaker"),
    };

    private final Check check = new Check();
    private final int[] answers = new int[SORTS.length];
    private final int[] thrown = new int[SORTS.length];
    private final int[] above = new int[SORTS.length];
    private Random random;
    private Fieldgrammar camp;
    private Model model;
    private int sounds;
    private int kinds;
    private int lexemes;
    private int rules;
    private int words;
    private int calls;

    private static int[] of(int... often) {
        return often;
    }

    public static void main(String[] args) throws IllegalAccessException {
        ModelTest test = new ModelTest();
        for (int run = 0; run < RUNS; run++) {
            test.run(run);
        }
        for (int sort = 0; sort < SORTS.length; sort++) {
            System.out.println(SORTS[sort].name + ": " + test.answers[sort] + " calls, " + test.thrown[sort]
                    + " threw, " + test.above[sort] + " answered above 0");
        }
        test.check.close();
    }

    private void run(int run) throws IllegalAccessException {
        random = new Random(run);
        camp = new Fieldgrammar();
        model = new Model();
        sounds = 0;
        kinds = 0;
        lexemes = 0;
        rules = 0;
        words = 0;
        calls = 0;
        open(run);
        while (calls < CALLS) {
            if (random.nextInt(run % 4 == 1 ? 8 : 25) == 0) {
                hearWhatFits(run);
            } else {
                make(run, chosen(run % 4));
            }
        }
    }

    /** Most runs begin with something to work on; in some the calls come to an empty camp. */
    private void open(int run) throws IllegalAccessException {
        if (random.nextInt(10) == 0) {
            return;
        }
        for (int sound = 2 + random.nextInt(7); sound >= 0; sound--) {
            make(run, "sound");
        }
        for (int kind = 1 + random.nextInt(3); kind >= 0; kind--) {
            make(run, "kind");
        }
        for (int lexeme = 1 + random.nextInt(3); lexeme >= 0; lexeme--) {
            for (int sound = random.nextInt(4); sound >= 0; sound--) {
                make(run, "put");
            }
            make(run, "lexeme");
        }
        for (int rule = random.nextInt(6); rule >= 0; rule--) {
            make(run, "rule");
        }
    }

    /** Random forms hardly ever fit: this hears, or names as an exception, the word that there is. */
    private void hearWhatFits(int run) throws IllegalAccessException {
        Object lexeme = argument("lexeme");
        Object cell = argument("cell");
        make(run, "wipe");
        for (int place = 0; place < 8; place++) {
            Object sound = answer(model, "at", new Class<?>[] {int.class, int.class, int.class},
                    new Object[] {lexeme, cell, place});
            if (sound instanceof Integer && (Integer) sound >= 0) {
                make(run, indexOf("put"), sound);
            }
        }
        if (random.nextInt(8) == 0) {
            make(run, indexOf("except"), lexeme, cell, true);
        } else {
            make(run, indexOf("hear"), lexeme, cell, argument("speaker"));
        }
    }

    private static int indexOf(String name) {
        for (int sort = 0; sort < SORTS.length; sort++) {
            if (SORTS[sort].name.equals(name)) {
                return sort;
            }
        }
        throw new IllegalArgumentException(name);
    }

    private void make(int run, String name) throws IllegalAccessException {
        make(run, indexOf(name));
    }

    private int chosen(int runs) {
        int all = 0;
        for (Sort sort : SORTS) {
            all += sort.often[runs];
        }
        int left = random.nextInt(all);
        int chosen = 0;
        while (left >= SORTS[chosen].often[runs]) {
            left -= SORTS[chosen].often[runs];
            chosen++;
        }
        return chosen;
    }

    private void make(int run, int number) throws IllegalAccessException {
        Sort sort = SORTS[number];
        Object[] arguments = new Object[sort.arguments.length];
        for (int place = 0; place < arguments.length; place++) {
            arguments[place] = argument(sort.arguments[place]);
        }
        make(run, number, arguments);
    }

    private void make(int run, int number, Object... arguments) throws IllegalAccessException {
        if (calls == CALLS) {
            return;
        }
        calls++;
        Sort sort = SORTS[number];
        Class<?>[] types = new Class<?>[arguments.length];
        for (int place = 0; place < arguments.length; place++) {
            types[place] = arguments[place] instanceof Boolean ? boolean.class : int.class;
        }
        Object want = answer(model, sort.name, types, arguments);
        Object got = answer(camp, sort.name, types, arguments);
        check.due("run " + run + ": " + sort.name + Arrays.toString(arguments), got, want);
        answers[number]++;
        if (want instanceof Class) {
            thrown[number]++;
        } else if (want instanceof Integer && (Integer) want > 0) {
            above[number]++;
        }
        if (want instanceof Integer) {
            count(sort.name, (Integer) want + 1);
        }
    }

    private void count(String name, int made) {
        switch (name) {
            case "sound":
                sounds = made;
                break;
            case "kind":
                kinds = made;
                break;
            case "lexeme":
            case "split":
                lexemes = made;
                break;
            case "rule":
                rules = made;
                break;
            case "hear":
                words = made;
                break;
            default:
                break;
        }
    }

    /** A number of one that there is, or, at times, the next one. */
    private int numberOf(int count) {
        return random.nextInt(count == 0 || random.nextInt(20) == 0 ? count + 1 : count);
    }

    private Object argument(String kind) {
        if (kind.equals("boolean")) {
            return random.nextInt(3) > 0;
        }
        if (random.nextInt(60) == 0) {
            return ODD[random.nextInt(ODD.length)];
        }
        switch (kind) {
            case "features":
                return random.nextInt(5) == 0 ? random.nextInt(64) : random.nextInt(4);
            case "needs":
            case "bars":
                return random.nextInt(6) == 0 ? random.nextInt(64) : random.nextInt(2) * (1 << random.nextInt(2));
            case "turned":
                int feature = 1 << random.nextInt(2);
                return random.nextInt(4) == 0 ? 0 : random.nextInt(6) == 0 ? random.nextInt(64) : feature;
            case "sound":
                return numberOf(sounds);
            case "kind":
                return numberOf(kinds);
            case "side":
                return random.nextInt(2) == 0 ? numberOf(kinds) : -1 - random.nextInt(2);
            case "lexeme":
                return numberOf(lexemes);
            case "cell":
                return random.nextInt(3) == 0 ? random.nextInt(8) : random.nextInt(3);
            case "speaker":
                return random.nextInt(4);
            case "rule":
                return numberOf(rules);
            case "word":
                return numberOf(words);
            case "cells":
                return 1 + random.nextInt(random.nextInt(3) == 0 ? 255 : 7);
            case "what":
                return random.nextInt(5);
            default:
                return random.nextInt(6);
        }
    }

    /** What a call returns, or the class of what it throws itself. */
    private static Object answer(Object one, String name, Class<?>[] types, Object[] arguments)
            throws IllegalAccessException {
        try {
            Method method = one.getClass().getMethod(name, types);
            return method.invoke(one, arguments);
        } catch (InvocationTargetException thrown) {
            return Check.classOf(thrown.getCause(), one.getClass());
        } catch (NoSuchMethodException missing) {
            return missing.getMessage();
        }
    }
}
