import java.util.ArrayList;
import java.util.HashMap;
import java.util.HashSet;
import java.util.List;
import java.util.Map;
import java.util.Set;
import java.util.TreeMap;

/** The document a second time, with lists and maps and no thought of speed: what ModelTest holds the class to. */
public final class Model {
    private static final class Word {
        int lexeme;
        int cell;
        int speaker;
        List<Integer> form;
        boolean gone;
    }

    /** What a merge or a split found: all exceptions, and which words were of which lexeme. */
    private static final class Found {
        boolean split;
        int lexeme;
        int other;
        Map<Integer, List<Integer>> exceptions;
        Map<Integer, List<Integer>> otherExceptions;
        Set<Word> moved = new HashSet<>();
    }

    private record Rule(int target, int turned, int left, int right) {
    }

    private final List<Integer> sounds = new ArrayList<>();
    private final List<int[]> kinds = new ArrayList<>();
    private List<Integer> draft = new ArrayList<>();
    private final List<List<Integer>> forms = new ArrayList<>();
    private final Set<Integer> gone = new HashSet<>();
    private final Map<Integer, Map<Integer, List<Integer>>> exceptions = new HashMap<>();
    private final List<List<Integer>> endings = new ArrayList<>();
    private final List<Rule> rules = new ArrayList<>();
    private final List<Integer> order = new ArrayList<>();
    private final Set<Integer> on = new HashSet<>();
    private final List<Word> words = new ArrayList<>();
    private final List<Found> changes = new ArrayList<>();

    public Model() {
        for (int cell = 0; cell < 8; cell++) {
            endings.add(List.of());
        }
    }

    private static void bounds(boolean holds) {
        if (!holds) {
            throw new IndexOutOfBoundsException();
        }
    }

    private static void argument(boolean holds) {
        if (!holds) {
            throw new IllegalArgumentException();
        }
    }

    private static void state(boolean holds) {
        if (!holds) {
            throw new IllegalStateException();
        }
    }

    private static boolean in(int number, int end) {
        return 0 <= number && number < end;
    }

    private boolean lives(int lexeme) {
        return in(lexeme, forms.size()) && !gone.contains(lexeme);
    }

    private boolean known(int word) {
        return in(word, words.size()) && !words.get(word).gone;
    }

    private List<Integer> taken() {
        List<Integer> taken = draft;
        draft = new ArrayList<>();
        return taken;
    }

    public int sound(int features) {
        argument(in(features, 64));
        state(!sounds.contains(features) && sounds.size() < 16);
        sounds.add(features);
        return sounds.size() - 1;
    }

    public int kind(int needs, int bars) {
        argument(in(needs, 64) && in(bars, 64));
        state(kinds.size() < 12);
        kinds.add(new int[] {needs, bars});
        return kinds.size() - 1;
    }

    public int put(int sound) {
        bounds(in(sound, sounds.size()));
        state(draft.size() < 8);
        draft.add(sound);
        return draft.size();
    }

    public int wipe() {
        return taken().size();
    }

    public int lexeme() {
        state(forms.size() < 16 && draft.size() >= 1 && draft.size() <= 6);
        return made(taken());
    }

    private int made(List<Integer> form) {
        forms.add(form);
        exceptions.put(forms.size() - 1, new TreeMap<>());
        return forms.size() - 1;
    }

    public void reform(int lexeme) {
        bounds(lives(lexeme));
        state(draft.size() >= 1 && draft.size() <= 6);
        forms.set(lexeme, taken());
    }

    public void ending(int cell) {
        bounds(in(cell, 8));
        state(draft.size() <= 2);
        endings.set(cell, taken());
    }

    public int rule(int target, int turned, int left, int right) {
        bounds(in(target, kinds.size()));
        bounds(left == -1 || left == -2 || in(left, kinds.size()));
        bounds(right == -1 || right == -2 || in(right, kinds.size()));
        argument(in(turned, 64));
        state(rules.size() < 6);
        rules.add(new Rule(target, turned, left, right));
        order.add(rules.size() - 1);
        on.add(rules.size() - 1);
        return rules.size() - 1;
    }

    public boolean turn(int rule, boolean isOn) {
        bounds(in(rule, rules.size()));
        return isOn ? on.add(rule) : on.remove(rule);
    }

    public int raise(int rule) {
        bounds(in(rule, rules.size()));
        int place = order.indexOf(rule);
        if (place == 0) {
            return 0;
        }
        order.remove(place);
        order.add(place - 1, rule);
        return place - 1;
    }

    public int hear(int lexeme, int cell, int speaker) {
        bounds(lives(lexeme) && in(cell, 8) && in(speaker, 4));
        state(words.size() < 40);
        Word word = new Word();
        word.lexeme = lexeme;
        word.cell = cell;
        word.speaker = speaker;
        word.form = taken();
        words.add(word);
        return words.size() - 1;
    }

    public boolean correct(int word) {
        bounds(known(word));
        List<Integer> before = words.get(word).form;
        words.get(word).form = taken();
        return !before.equals(words.get(word).form);
    }

    public int forget(int word) {
        bounds(known(word));
        words.get(word).gone = true;
        return (int) words.stream().filter(one -> !one.gone).count();
    }

    public boolean except(int lexeme, int cell, boolean isOne) {
        bounds(lives(lexeme) && in(cell, 8));
        Map<Integer, List<Integer>> own = exceptions.get(lexeme);
        return (isOne ? own.put(cell, taken()) : own.remove(cell)) != null;
    }

    private Found found(int lexeme, int other, boolean split) {
        Found found = new Found();
        found.split = split;
        found.lexeme = lexeme;
        found.other = other;
        found.exceptions = new TreeMap<>(exceptions.get(lexeme));
        found.otherExceptions = new TreeMap<>(exceptions.get(other));
        changes.add(found);
        return found;
    }

    public int merge(int lexeme, int into) {
        bounds(lives(lexeme) && lives(into));
        argument(lexeme != into);
        Found found = found(lexeme, into, false);
        int moved = 0;
        for (Word word : words) {
            if (word.lexeme == lexeme && !word.gone) {
                word.lexeme = into;
                found.moved.add(word);
                moved++;
            }
        }
        exceptions.get(lexeme).forEach((cell, form) -> exceptions.get(into).putIfAbsent(cell, form));
        exceptions.get(lexeme).clear();
        gone.add(lexeme);
        return moved;
    }

    public int split(int lexeme, int cells) {
        bounds(lives(lexeme));
        argument(cells >= 1 && cells <= 255);
        state(forms.size() < 16);
        int made = made(forms.get(lexeme));
        Found found = found(lexeme, made, true);
        for (int cell = 0; cell < 8; cell++) {
            if ((cells & 1 << cell) == 0) {
                continue;
            }
            List<Integer> exception = exceptions.get(lexeme).remove(cell);
            if (exception != null) {
                exceptions.get(made).put(cell, exception);
            }
            for (Word word : words) {
                if (word.lexeme == lexeme && word.cell == cell && !word.gone) {
                    word.lexeme = made;
                    found.moved.add(word);
                }
            }
        }
        return made;
    }

    public int undo() {
        state(!changes.isEmpty());
        Found found = changes.remove(changes.size() - 1);
        for (Word word : words) {
            if (found.moved.contains(word) || found.split && word.lexeme == found.other) {
                word.lexeme = found.lexeme;
            }
        }
        exceptions.put(found.lexeme, found.exceptions);
        exceptions.put(found.other, found.otherExceptions);
        if (found.split) {
            gone.add(found.other);
        } else {
            gone.remove(found.lexeme);
        }
        return changes.size();
    }

    // ---- what is asked

    private boolean isOf(int sound, int kind) {
        int features = sounds.get(sound);
        for (int feature = 0; feature < 6; feature++) {
            boolean has = (features >> feature & 1) == 1;
            if (!has && (kinds.get(kind)[0] >> feature & 1) == 1 || has && (kinds.get(kind)[1] >> feature & 1) == 1) {
                return false;
            }
        }
        return true;
    }

    /** Whether a side is met by a sound, or by none, if that is null. */
    private boolean meets(int side, Integer sound) {
        if (side == -1) {
            return true;
        }
        return side == -2 ? sound == null : sound != null && isOf(sound, side);
    }

    /** Derives a word; into steps goes how many sounds each rule turned or left out. */
    private List<Integer> derived(int lexeme, int cell, Set<Integer> set, Map<Integer, Integer> steps) {
        List<Integer> row = new ArrayList<>(forms.get(lexeme));
        row.addAll(endings.get(cell));
        for (int number : order) {
            if (!set.contains(number)) {
                continue;
            }
            Rule rule = rules.get(number);
            List<Integer> next = new ArrayList<>();
            int changed = 0;
            for (int place = 0; place < row.size(); place++) {
                int sound = row.get(place);
                Integer ahead = next.isEmpty() ? null : next.get(next.size() - 1);
                Integer behind = place + 1 < row.size() ? row.get(place + 1) : null;
                boolean met = isOf(sound, rule.target) && meets(rule.left, ahead) && meets(rule.right, behind);
                if (met && rule.turned == 0) {
                    changed++;
                    continue;
                }
                int become = met ? sounds.indexOf(sounds.get(sound) ^ rule.turned) : sound;
                next.add(become < 0 ? sound : become);
                changed += met && become >= 0 ? 1 : 0;
            }
            steps.put(number, changed);
            row = next;
        }
        return row;
    }

    private List<Integer> wordOf(int lexeme, int cell, Set<Integer> set) {
        List<Integer> exception = exceptions.get(lexeme).get(cell);
        return exception != null ? exception : derived(lexeme, cell, set, new HashMap<>());
    }

    private boolean isOfException(Word word) {
        return exceptions.get(word.lexeme).containsKey(word.cell);
    }

    private boolean fits(Word word, Set<Integer> set) {
        return wordOf(word.lexeme, word.cell, set).equals(word.form);
    }

    public int length(int lexeme, int cell) {
        bounds(lives(lexeme) && in(cell, 8));
        return wordOf(lexeme, cell, on).size();
    }

    public int at(int lexeme, int cell, int place) {
        bounds(lives(lexeme) && in(cell, 8) && place >= 0);
        List<Integer> word = wordOf(lexeme, cell, on);
        return place < word.size() ? word.get(place) : -1;
    }

    public int step(int lexeme, int cell, int rule) {
        bounds(lives(lexeme) && in(cell, 8) && in(rule, rules.size()));
        Map<Integer, Integer> steps = new HashMap<>();
        derived(lexeme, cell, on, steps);
        return steps.getOrDefault(rule, 0);
    }

    public int ofWord(int word, int what) {
        bounds(known(word));
        argument(in(what, 5));
        Word told = words.get(word);
        int[] answers = {told.lexeme, told.cell, told.speaker, told.form.size(), fits(told, on) ? 1 : 0};
        return answers[what];
    }

    public int misfit(int place) {
        bounds(place >= 0);
        List<Integer> misfits = new ArrayList<>();
        for (int word = 0; word < words.size(); word++) {
            if (known(word) && !fits(words.get(word), on)) {
                misfits.add(word);
            }
        }
        return place < misfits.size() ? misfits.get(place) : -1;
    }

    public int claims(int rule, boolean supports) {
        bounds(in(rule, rules.size()));
        if (!on.contains(rule)) {
            return 0;
        }
        Set<Integer> without = new HashSet<>(on);
        without.remove(rule);
        int count = 0;
        for (Word word : words) {
            if (word.gone) {
                continue;
            }
            Map<Integer, Integer> steps = new HashMap<>();
            derived(word.lexeme, word.cell, on, steps);
            boolean support = fits(word, on) && !isOfException(word) && steps.get(rule) >= 1;
            boolean contradiction = !fits(word, on) && fits(word, without);
            count += (supports ? support : contradiction) ? 1 : 0;
        }
        return count;
    }

    private static Set<Integer> setOf(int bits) {
        Set<Integer> set = new HashSet<>();
        for (int rule = 0; rule < 6; rule++) {
            if ((bits >> rule & 1) == 1) {
                set.add(rule);
            }
        }
        return set;
    }

    private List<Integer> fittingSets() {
        List<Integer> fitting = new ArrayList<>();
        for (int bits = 0; bits < 1 << rules.size(); bits++) {
            Set<Integer> set = setOf(bits);
            if (words.stream().allMatch(word -> word.gone || isOfException(word) || fits(word, set))) {
                fitting.add(bits);
            }
        }
        return fitting;
    }

    public int fitting() {
        return fittingSets().size();
    }

    public int smallest() {
        for (int count = 0; count <= 6; count++) {
            for (int bits : fittingSets()) {
                if (setOf(bits).size() == count) {
                    return bits;
                }
            }
        }
        return -1;
    }

    public int question() {
        List<Integer> fitting = fittingSets();
        int most = 0;
        int question = -1;
        for (int lexeme = 15; lexeme >= 0; lexeme--) {
            for (int cell = 7; cell >= 0; cell--) {
                if (!lives(lexeme) || exceptions.get(lexeme).containsKey(cell) || wasHeard(lexeme, cell)) {
                    continue;
                }
                Set<List<Integer>> unlike = new HashSet<>();
                for (int bits : fitting) {
                    unlike.add(derived(lexeme, cell, setOf(bits), new HashMap<>()));
                }
                if (unlike.size() >= 2 && unlike.size() >= most) {
                    most = unlike.size();
                    question = 8 * lexeme + cell;
                }
            }
        }
        return question;
    }

    private boolean wasHeard(int lexeme, int cell) {
        return words.stream().anyMatch(word -> !word.gone && word.lexeme == lexeme && word.cell == cell);
    }

    public int pairs(int one, int other) {
        bounds(in(one, sounds.size()) && in(other, sounds.size()));
        argument(one != other);
        int count = 0;
        for (Word word : words) {
            for (Word like : words) {
                if (word.gone || like.gone || word.lexeme == like.lexeme || word.form.size() != like.form.size()) {
                    continue;
                }
                List<String> unlike = new ArrayList<>();
                for (int place = 0; place < word.form.size(); place++) {
                    if (!word.form.get(place).equals(like.form.get(place))) {
                        unlike.add(word.form.get(place) + "/" + like.form.get(place));
                    }
                }
                // Only one way round: each pair of words comes up twice.
                count += unlike.equals(List.of(one + "/" + other)) ? 1 : 0;
            }
        }
        return count;
    }

    public int holes(int lexeme) {
        bounds(lives(lexeme));
        int holes = 0;
        for (int cell = 0; cell < 8; cell++) {
            holes += wasHeard(lexeme, cell) ? 0 : 1 << cell;
        }
        return holes;
    }

    public int shared(int one, int other) {
        bounds(in(one, 4) && in(other, 4));
        Set<Integer> cells = new HashSet<>();
        for (Word word : words) {
            for (Word like : words) {
                if (!word.gone && !like.gone && word.speaker == one && like.speaker == other
                        && word.lexeme == like.lexeme && word.cell == like.cell && word.form.equals(like.form)) {
                    cells.add(8 * word.lexeme + word.cell);
                }
            }
        }
        return cells.size();
    }
}
