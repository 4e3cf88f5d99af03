import java.util.ArrayList;

/** A camp at which a language is described that nobody has written; ../shared/DOC.md says what each call promises. */
public final class Fieldgrammar {
    public static final int NONE = -1;
    public static final int ANY = -1, EDGE = -2;

    private static final int FEATURE_SETS = 64;
    private static final int MOST_SOUNDS = 16;
    private static final int MOST_KINDS = 12;
    private static final int MOST_LEXEMES = 16;
    private static final int LONGEST_FORM = 6;
    private static final int CELLS = 8;
    private static final int ALL_CELLS = 255;
    private static final int LONGEST_ENDING = 2;
    private static final int MOST_RULES = 6;
    private static final int RULE_SETS = 64;
    private static final int MOST_WORDS = 40;
    private static final int SPEAKERS = 4;

    private final Phonology phonology = new Phonology();
    private final Lexicon lexicon = new Lexicon();
    private final CellRows endings = new CellRows();
    private long draft = Row.EMPTY;

    public Fieldgrammar() {
    }

    // ---- sounds, forms

    public int sound(int features) throws IllegalArgumentException, IllegalStateException {
        checkFeatures(features);
        if (phonology.hasSoundWith(features) || phonology.soundCount() >= MOST_SOUNDS) {
            throw new IllegalStateException();
        }
        return phonology.addSound(features);
    }

    public int kind(int needs, int bars) throws IllegalArgumentException, IllegalStateException {
        checkFeatures(needs);
        checkFeatures(bars);
        if (phonology.kindCount() >= MOST_KINDS) {
            throw new IllegalStateException();
        }
        return phonology.addKind(needs, bars);
    }

    public int put(int sound) throws IndexOutOfBoundsException, IllegalStateException {
        checkSound(sound);
        int size = Row.sizeOf(draft);
        if (size >= Row.MOST) {
            throw new IllegalStateException();
        }
        draft = Row.with(draft, size, Row.codeOf(sound));
        return size + 1;
    }

    public int wipe() {
        return Row.sizeOf(takeDraft());
    }

    // ---- lexemes, endings, rules; the draft is empty then, where it is taken

    public int lexeme() throws IllegalStateException {
        checkLexemesLeft();
        checkDraftIsForm();
        return lexicon.addLexeme(takeDraft()).number;
    }

    public void reform(int lexeme) throws IndexOutOfBoundsException, IllegalStateException {
        Lexeme reformed = lexemeNumbered(lexeme);
        checkDraftIsForm();
        reformed.form = takeDraft();
    }

    public void ending(int cell) throws IndexOutOfBoundsException, IllegalStateException {
        checkCell(cell);
        if (Row.sizeOf(draft) > LONGEST_ENDING) {
            throw new IllegalStateException();
        }
        endings.give(cell, takeDraft());
    }

    public int rule(int target, int turned, int left, int right)
            throws IndexOutOfBoundsException, IllegalArgumentException, IllegalStateException {
        Kind met = phonology.kindNumbered(target);
        Kind ahead = phonology.sideNumbered(left);
        Kind behind = phonology.sideNumbered(right);
        if (met == null || ahead == null || behind == null) {
            throw new IndexOutOfBoundsException();
        }
        checkFeatures(turned);
        if (phonology.ruleCount() >= MOST_RULES) {
            throw new IllegalStateException();
        }
        return phonology.addRule(met, turned, ahead, behind);
    }

    public boolean turn(int rule, boolean isOn) throws IndexOutOfBoundsException {
        return phonology.setOn(ruleNumbered(rule), isOn);
    }

    public int raise(int rule) throws IndexOutOfBoundsException {
        return phonology.moveAhead(ruleNumbered(rule));
    }

    // ---- words, exceptions; the draft is empty then, where it is taken

    public int hear(int lexeme, int cell, int speaker) throws IndexOutOfBoundsException, IllegalStateException {
        Lexeme heard = lexemeNumbered(lexeme);
        checkCell(cell);
        checkSpeaker(speaker);
        if (lexicon.wordCount() >= MOST_WORDS) {
            throw new IllegalStateException();
        }
        return lexicon.addWord(heard, cell, speaker, takeDraft());
    }

    public boolean correct(int word) throws IndexOutOfBoundsException {
        Word corrected = wordNumbered(word);
        long before = corrected.form;
        corrected.form = takeDraft();
        return corrected.form != before;
    }

    public int forget(int word) throws IndexOutOfBoundsException {
        wordNumbered(word).isForgotten = true;
        return lexicon.wordsLeft();
    }

    public boolean except(int lexeme, int cell, boolean isOne) throws IndexOutOfBoundsException {
        CellRows exceptions = lexemeNumbered(lexeme).exceptions;
        checkCell(cell);
        boolean wasOne = exceptions.has(cell);
        if (isOne) {
            exceptions.give(cell, takeDraft());
        } else {
            exceptions.drop(cell);
        }
        return wasOne;
    }

    // ---- the lexicon

    public int merge(int lexeme, int into) throws IndexOutOfBoundsException, IllegalArgumentException {
        Lexeme from = lexemeNumbered(lexeme);
        Lexeme to = lexemeNumbered(into);
        if (from == to) {
            throw new IllegalArgumentException();
        }
        return lexicon.mergeInto(from, to);
    }

    public int split(int lexeme, int cells)
            throws IndexOutOfBoundsException, IllegalArgumentException, IllegalStateException {
        Lexeme from = lexemeNumbered(lexeme);
        if (cells < 1 || cells > ALL_CELLS) {
            throw new IllegalArgumentException();
        }
        checkLexemesLeft();
        return lexicon.splitOff(from, cells);
    }

    public int undo() throws IllegalStateException {
        if (lexicon.changesLeft() == 0) {
            throw new IllegalStateException();
        }
        return lexicon.takeBack();
    }

    // ---- what is asked

    public int length(int lexeme, int cell) throws IndexOutOfBoundsException {
        Lexeme asked = lexemeNumbered(lexeme);
        checkCell(cell);
        return Row.sizeOf(wordOf(asked, cell, phonology.setOfOn()));
    }

    public int at(int lexeme, int cell, int place) throws IndexOutOfBoundsException {
        Lexeme asked = lexemeNumbered(lexeme);
        checkCell(cell);
        checkPlace(place);
        return Row.soundAt(wordOf(asked, cell, phonology.setOfOn()), place);
    }

    public int step(int lexeme, int cell, int rule) throws IndexOutOfBoundsException {
        Lexeme asked = lexemeNumbered(lexeme);
        checkCell(cell);
        return phonology.changesBy(ruleNumbered(rule), underlying(asked, cell));
    }

    public int ofWord(int word, int what) throws IndexOutOfBoundsException, IllegalArgumentException {
        Word asked = wordNumbered(word);
        switch (what) {
            case 0:
                return asked.lexeme.number;
            case 1:
                return asked.cell;
            case 2:
                return asked.speaker;
            case 3:
                return Row.sizeOf(asked.form);
            case 4:
                return fits(asked, phonology.setOfOn()) ? 1 : 0;
            default:
                throw new IllegalArgumentException();
        }
    }

    public int misfit(int place) throws IndexOutOfBoundsException {
        checkPlace(place);
        int ahead = 0;
        for (int number = 0; number < lexicon.wordCount(); number++) {
            Word word = lexicon.wordNumbered(number);
            if (word != null && !fits(word, phonology.setOfOn())) {
                if (ahead == place) {
                    return number;
                }
                ahead++;
            }
        }
        return NONE;
    }

    public int claims(int rule, boolean supports) throws IndexOutOfBoundsException {
        Rule claimed = ruleNumbered(rule);
        int count = 0;
        for (int number = 0; number < lexicon.wordCount(); number++) {
            Word word = lexicon.wordNumbered(number);
            if (word != null && (supports ? isSupport(word, claimed) : isContradiction(word, claimed))) {
                count++;
            }
        }
        return count;
    }

    public int fitting() {
        return Long.bitCount(fittingSets());
    }

    public int smallest() {
        long fitting = fittingSets();
        int best = NONE;
        for (int set = 0; set < RULE_SETS; set++) {
            if (isSetIn(set, fitting) && (best == NONE || Integer.bitCount(set) < Integer.bitCount(best))) {
                best = set;
            }
        }
        return best;
    }

    public int question() {
        long fitting = fittingSets();
        int most = 1;
        int question = NONE;
        for (int number = 0; number < lexicon.lexemeCount(); number++) {
            Lexeme lexeme = lexicon.lexemeNumbered(number);
            if (lexeme == null) {
                continue;
            }
            int heard = lexicon.cellsHeard(lexeme);
            for (int cell = 0; cell < CELLS; cell++) {
                if ((heard >>> cell & 1) != 0 || lexeme.exceptions.has(cell)) {
                    continue;
                }
                int unlike = countUnlike(underlying(lexeme, cell), fitting);
                if (unlike > most) {
                    most = unlike;
                    question = CELLS * number + cell;
                }
            }
        }
        return question;
    }

    public int pairs(int one, int other) throws IndexOutOfBoundsException, IllegalArgumentException {
        checkSound(one);
        checkSound(other);
        if (one == other) {
            throw new IllegalArgumentException();
        }
        int count = 0;
        for (int number = 0; number < lexicon.wordCount(); number++) {
            Word word = lexicon.wordNumbered(number);
            for (int later = number + 1; later < lexicon.wordCount(); later++) {
                if (isPair(word, lexicon.wordNumbered(later), one, other)) {
                    count++;
                }
            }
        }
        return count;
    }

    public int holes(int lexeme) throws IndexOutOfBoundsException {
        return ALL_CELLS & ~lexicon.cellsHeard(lexemeNumbered(lexeme));
    }

    public int shared(int one, int other) throws IndexOutOfBoundsException {
        checkSpeaker(one);
        checkSpeaker(other);
        int count = 0;
        for (int number = 0; number < lexicon.lexemeCount(); number++) {
            Lexeme lexeme = lexicon.lexemeNumbered(number);
            if (lexeme != null) {
                count += Integer.bitCount(lexicon.cellsShared(lexeme, one, other));
            }
        }
        return count;
    }

    // ---- what the calls look at first

    private static void checkFeatures(int features) throws IllegalArgumentException {
        if (features < 0 || features >= FEATURE_SETS) {
            throw new IllegalArgumentException();
        }
    }

    private void checkSound(int sound) throws IndexOutOfBoundsException {
        if (sound < 0 || sound >= phonology.soundCount()) {
            throw new IndexOutOfBoundsException();
        }
    }

    private static void checkCell(int cell) throws IndexOutOfBoundsException {
        if (!CellRows.isCell(cell)) {
            throw new IndexOutOfBoundsException();
        }
    }

    private static void checkSpeaker(int speaker) throws IndexOutOfBoundsException {
        if (speaker < 0 || speaker >= SPEAKERS) {
            throw new IndexOutOfBoundsException();
        }
    }

    private static void checkPlace(int place) throws IndexOutOfBoundsException {
        if (place < 0) {
            throw new IndexOutOfBoundsException();
        }
    }

    private void checkDraftIsForm() throws IllegalStateException {
        int size = Row.sizeOf(draft);
        if (size < 1 || size > LONGEST_FORM) {
            throw new IllegalStateException();
        }
    }

    private void checkLexemesLeft() throws IllegalStateException {
        if (lexicon.lexemeCount() >= MOST_LEXEMES) {
            throw new IllegalStateException();
        }
    }

    private Lexeme lexemeNumbered(int number) throws IndexOutOfBoundsException {
        Lexeme lexeme = lexicon.lexemeNumbered(number);
        if (lexeme == null) {
            throw new IndexOutOfBoundsException();
        }
        return lexeme;
    }

    private Word wordNumbered(int number) throws IndexOutOfBoundsException {
        Word word = lexicon.wordNumbered(number);
        if (word == null) {
            throw new IndexOutOfBoundsException();
        }
        return word;
    }

    private Rule ruleNumbered(int number) throws IndexOutOfBoundsException {
        Rule rule = phonology.ruleNumbered(number);
        if (rule == null) {
            throw new IndexOutOfBoundsException();
        }
        return rule;
    }

    // ---- words and sets of rules

    private long takeDraft() {
        long taken = draft;
        draft = Row.EMPTY;
        return taken;
    }

    private long underlying(Lexeme lexeme, int cell) {
        return Row.joined(lexeme.form, endings.in(cell));
    }

    private long wordOf(Lexeme lexeme, int cell, int set) {
        if (lexeme.exceptions.has(cell)) {
            return lexeme.exceptions.in(cell);
        }
        return phonology.derive(underlying(lexeme, cell), set);
    }

    private boolean fits(Word word, int set) {
        return word.form == wordOf(word.lexeme, word.cell, set);
    }

    private boolean isSupport(Word word, Rule rule) {
        return !word.isOfException() && fits(word, phonology.setOfOn())
                && phonology.changesBy(rule, underlying(word.lexeme, word.cell)) > 0;
    }

    // With a rule that is off, the two sets are the same, so that no word can contradict it.
    private boolean isContradiction(Word word, Rule rule) {
        int on = phonology.setOfOn();
        return !fits(word, on) && fits(word, on & ~rule.bit());
    }

    /** The sets of rules that fit: the bit of a set is that of the number which its own bits are. */
    private long fittingSets() {
        int sets = 1 << phonology.ruleCount();
        long fitting = -1L >>> (RULE_SETS - sets);
        for (int number = 0; number < lexicon.wordCount(); number++) {
            Word word = lexicon.wordNumbered(number);
            if (word == null || word.isOfException()) {
                continue;
            }
            phonology.deriveByAllSets(underlying(word.lexeme, word.cell));
            for (int set = 0; set < sets; set++) {
                if (phonology.wordBySet(set) != word.form) {
                    fitting &= ~(1L << set);
                }
            }
        }
        return fitting;
    }

    private static boolean isSetIn(int set, long sets) {
        return (sets >>> set & 1) != 0;
    }

    private int countUnlike(long row, long sets) {
        phonology.deriveByAllSets(row);
        int count = 0;
        for (int set = 0; set < RULE_SETS; set++) {
            if (isSetIn(set, sets) && !isWordOfLowerSet(set, sets)) {
                count++;
            }
        }
        return count;
    }

    private boolean isWordOfLowerSet(int set, long sets) {
        for (int lower = 0; lower < set; lower++) {
            if (isSetIn(lower, sets) && phonology.wordBySet(lower) == phonology.wordBySet(set)) {
                return true;
            }
        }
        return false;
    }

    private static boolean isPair(Word word, Word later, int one, int other) {
        if (word == null || later == null || word.lexeme == later.lexeme) {
            return false;
        }
        return Row.areApartBy(word.form, later.form, Row.codeOf(one), Row.codeOf(other));
    }

    /**
     * Rows of at most 8 sounds. A row is a long, so that rows are compared and kept without an object for each:
     * 5 bits a place, in which stands a sound's code, its number and 1, or END behind the last sound.
     */
    private static final class Row {
        static final int MOST = 8;
        static final int CODES = 32;
        static final int END = 0;
        static final long EMPTY = 0L;
        private static final int BITS = 5;

        static int codeOf(int sound) {
            return sound + 1;
        }

        static int codeAt(long row, int place) {
            if (place < 0 || place >= MOST) {
                return END;
            }
            return (int) (row >>> BITS * place) & CODES - 1;
        }

        static int soundAt(long row, int place) {
            int code = codeAt(row, place);
            return code == END ? NONE : code - 1;
        }

        static int sizeOf(long row) {
            for (int size = 0; size < MOST; size++) {
                if (row >>> BITS * size == EMPTY) {
                    return size;
                }
            }
            return MOST;
        }

        /** The row with one more sound; size is how many it has, told by the caller, who knows it. */
        static long with(long row, int size, int code) {
            return size < MOST ? row | (long) code << BITS * size : row;
        }

        static long joined(long front, long back) {
            int size = sizeOf(front);
            return size < MOST ? front | back << BITS * size : front;
        }

        /** How many sounds a rule turned or left out; it does but one of both: a row as long as before was turned. */
        static int changesBetween(long before, long after) {
            int changes = sizeOf(before) - sizeOf(after);
            if (changes != 0) {
                return changes;
            }
            for (int place = 0; place < MOST; place++) {
                if (codeAt(before, place) != codeAt(after, place)) {
                    changes++;
                }
            }
            return changes;
        }

        /** Whether two rows are unlike at just one place, and have the two codes there, in whichever order. */
        static boolean areApartBy(long row, long later, int one, int other) {
            int places = 0;
            for (int place = 0; place < MOST; place++) {
                int code = codeAt(row, place);
                int laterCode = codeAt(later, place);
                if (code == laterCode) {
                    continue;
                }
                if (!(code == one && laterCode == other || code == other && laterCode == one)) {
                    return false;
                }
                places++;
            }
            return places == 1;
        }
    }

    /** A row for each of some cells: endings, or exceptions. */
    private static final class CellRows {
        private final long[] rows = new long[CELLS];
        private int cells;

        static boolean isCell(int cell) {
            return cell >= 0 && cell < CELLS;
        }

        boolean has(int cell) {
            return isCell(cell) && (cells >>> cell & 1) != 0;
        }

        long in(int cell) {
            return isCell(cell) ? rows[cell] : Row.EMPTY;
        }

        void give(int cell, long row) {
            if (isCell(cell)) {
                rows[cell] = row;
                cells |= 1 << cell;
            }
        }

        void drop(int cell) {
            if (isCell(cell)) {
                rows[cell] = Row.EMPTY;
                cells &= ~(1 << cell);
            }
        }

        void copyFrom(CellRows other) {
            for (int cell = 0; cell < CELLS; cell++) {
                rows[cell] = other.in(cell);
            }
            cells = other.cells;
        }

        void fillGapsFrom(CellRows other) {
            for (int cell = 0; cell < CELLS; cell++) {
                if (other.has(cell) && !has(cell)) {
                    give(cell, other.in(cell));
                }
            }
        }

        void moveTo(CellRows other, int moved) {
            for (int cell = 0; cell < CELLS; cell++) {
                if (has(cell) && (moved >>> cell & 1) != 0) {
                    other.give(cell, in(cell));
                    drop(cell);
                }
            }
        }
    }

    /** A class as the bits of its sounds' codes; the end of a row has a code too, so EDGE is a class like others. */
    private static final class Kind {
        private final int needs;
        private final int bars;
        int codes;

        Kind(int needs, int bars, int codes) {
            this.needs = needs;
            this.bars = bars;
            this.codes = codes;
        }

        void look(int code, int features) {
            if ((features & needs) == needs && (features & bars) == 0) {
                codes |= 1 << code;
            }
        }
    }

    private static final class Rule {
        final int number;
        private final Kind target;
        final int turned;
        private final Kind left;
        private final Kind right;

        Rule(int number, Kind target, int turned, Kind left, Kind right) {
            this.number = number;
            this.target = target;
            this.turned = turned;
            this.left = left;
            this.right = right;
        }

        int bit() {
            return 1 << number;
        }

        boolean isIn(int set) {
            return (set & bit()) != 0;
        }

        boolean meets(int ahead, int code, int behind) {
            return (target.codes >>> code & left.codes >>> ahead & right.codes >>> behind & 1) != 0;
        }
    }

    /** The sounds, their classes, and the rules in their order. */
    private static final class Phonology {
        private final int[] featuresOfCode = new int[Row.CODES];
        private final int[] codeOfFeatures = new int[FEATURE_SETS];
        private int sounds;
        private final ArrayList<Kind> kinds = new ArrayList<Kind>();
        private final Kind any = new Kind(0, 0, -1);
        private final Kind edge = new Kind(0, 0, 1 << Row.END);
        private final ArrayList<Rule> rules = new ArrayList<Rule>();
        private final ArrayList<Rule> order = new ArrayList<Rule>();
        private int on;
        private final long[] bySet = new long[RULE_SETS];

        int soundCount() {
            return sounds;
        }

        int kindCount() {
            return kinds.size();
        }

        int ruleCount() {
            return rules.size();
        }

        int setOfOn() {
            return on;
        }

        boolean hasSoundWith(int features) {
            return codeOfFeatures[features & FEATURE_SETS - 1] != Row.END;
        }

        int addSound(int features) {
            int number = sounds;
            int code = Row.codeOf(number);
            featuresOfCode[code & Row.CODES - 1] = features;
            codeOfFeatures[features & FEATURE_SETS - 1] = code;
            for (int kind = 0; kind < kinds.size(); kind++) {
                kinds.get(kind).look(code, features);
            }
            sounds++;
            return number;
        }

        int addKind(int needs, int bars) {
            Kind kind = new Kind(needs, bars, 0);
            for (int sound = 0; sound < sounds; sound++) {
                int code = Row.codeOf(sound);
                kind.look(code, featuresOfCode[code & Row.CODES - 1]);
            }
            kinds.add(kind);
            return kinds.size() - 1;
        }

        Kind kindNumbered(int number) {
            return number >= 0 && number < kinds.size() ? kinds.get(number) : null;
        }

        Kind sideNumbered(int number) {
            if (number == ANY) {
                return any;
            }
            return number == EDGE ? edge : kindNumbered(number);
        }

        Rule ruleNumbered(int number) {
            return number >= 0 && number < rules.size() ? rules.get(number) : null;
        }

        int addRule(Kind target, int turned, Kind left, Kind right) {
            Rule rule = new Rule(rules.size(), target, turned, left, right);
            rules.add(rule);
            order.add(rule);
            on |= rule.bit();
            return rule.number;
        }

        boolean setOn(Rule rule, boolean isOn) {
            boolean isChange = rule.isIn(on) != isOn;
            on = isOn ? on | rule.bit() : on & ~rule.bit();
            return isChange;
        }

        int moveAhead(Rule rule) {
            for (int place = 1; place < order.size(); place++) {
                if (order.get(place) == rule) {
                    order.set(place, order.get(place - 1));
                    order.set(place - 1, rule);
                    return place - 1;
                }
            }
            return 0;
        }

        /** What a sound that is met becomes: END if it is left out. */
        private int turnedCode(int code, int turned) {
            if (turned == 0) {
                return Row.END;
            }
            int features = featuresOfCode[code & Row.CODES - 1] ^ turned;
            int become = codeOfFeatures[features & FEATURE_SETS - 1];
            return become == Row.END ? code : become;
        }

        private long goOver(long row, Rule rule) {
            long gone = Row.EMPTY;
            int size = 0;
            int ahead = Row.END;
            for (int place = 0; place < Row.MOST; place++) {
                int code = Row.codeAt(row, place);
                if (code == Row.END) {
                    break;
                }
                if (rule.meets(ahead, code, Row.codeAt(row, place + 1))) {
                    code = turnedCode(code, rule.turned);
                }
                if (code != Row.END) {
                    gone = Row.with(gone, size, code);
                    size++;
                    ahead = code;
                }
            }
            return gone;
        }

        long derive(long row, int set) {
            long word = row;
            for (int place = 0; place < order.size(); place++) {
                Rule rule = order.get(place);
                if (rule.isIn(set)) {
                    word = goOver(word, rule);
                }
            }
            return word;
        }

        /** How many sounds a rule turns or leaves out with the rules that are on. */
        int changesBy(Rule asked, long row) {
            long word = row;
            for (int place = 0; place < order.size(); place++) {
                Rule rule = order.get(place);
                if (rule.isIn(on)) {
                    long next = goOver(word, rule);
                    if (rule == asked) {
                        return Row.changesBetween(word, next);
                    }
                    word = next;
                }
            }
            return 0;
        }

        /** Derives by each set of rules; sets that are alike up to a rule share what was derived up to there. */
        void deriveByAllSets(long row) {
            bySet[0] = row;
            int done = 0;
            for (int place = 0; place < order.size(); place++) {
                Rule rule = order.get(place);
                for (int set = 0; set < RULE_SETS; set++) {
                    if ((set & ~done) == 0) {
                        bySet[(set | rule.bit()) & RULE_SETS - 1] = goOver(bySet[set], rule);
                    }
                }
                done |= rule.bit();
            }
        }

        /** The word by a set of rules that deriveByAllSets told last. */
        long wordBySet(int set) {
            return bySet[set & RULE_SETS - 1];
        }
    }

    private static final class Lexeme {
        final int number;
        long form;
        boolean isGone;
        final CellRows exceptions = new CellRows();

        Lexeme(int number, long form) {
            this.number = number;
            this.form = form;
        }
    }

    private static final class Word {
        Lexeme lexeme;
        final int cell;
        final int speaker;
        long form;
        boolean isForgotten;

        Word(Lexeme lexeme, int cell, int speaker, long form) {
            this.lexeme = lexeme;
            this.cell = cell;
            this.speaker = speaker;
            this.form = form;
        }

        boolean isOfException() {
            return lexeme.exceptions.has(cell);
        }
    }

    /**
     * A merge or a split, with what taking it back needs. Of the two lexemes one is gone ahead of a split or after
     * a merge, and no call changes the exceptions of one that is gone: so those of the lexeme that stays are enough.
     */
    private static final class Change {
        final Lexeme from;
        final Lexeme to;
        final boolean isSplit;
        final CellRows exceptions = new CellRows();
        long moved;

        Change(Lexeme from, Lexeme to, boolean isSplit) {
            this.from = from;
            this.to = to;
            this.isSplit = isSplit;
        }

        Lexeme staying() {
            return isSplit ? from : to;
        }
    }

    /** The lexemes, the words that were heard of them, and the merges and splits that were not taken back. */
    private static final class Lexicon {
        private final ArrayList<Lexeme> lexemes = new ArrayList<Lexeme>();
        private final ArrayList<Word> words = new ArrayList<Word>();
        private final ArrayList<Change> changes = new ArrayList<Change>();

        int lexemeCount() {
            return lexemes.size();
        }

        int wordCount() {
            return words.size();
        }

        int changesLeft() {
            return changes.size();
        }

        /** The lexeme, or null if there is none, or it is gone. */
        Lexeme lexemeNumbered(int number) {
            if (number < 0 || number >= lexemes.size()) {
                return null;
            }
            Lexeme lexeme = lexemes.get(number);
            return lexeme.isGone ? null : lexeme;
        }

        /** The word, or null if there is none, or it was forgotten. */
        Word wordNumbered(int number) {
            if (number < 0 || number >= words.size()) {
                return null;
            }
            Word word = words.get(number);
            return word.isForgotten ? null : word;
        }

        Lexeme addLexeme(long form) {
            Lexeme lexeme = new Lexeme(lexemes.size(), form);
            lexemes.add(lexeme);
            return lexeme;
        }

        int addWord(Lexeme lexeme, int cell, int speaker, long form) {
            words.add(new Word(lexeme, cell, speaker, form));
            return words.size() - 1;
        }

        int wordsLeft() {
            int left = 0;
            for (int number = 0; number < words.size(); number++) {
                if (!words.get(number).isForgotten) {
                    left++;
                }
            }
            return left;
        }

        int cellsHeard(Lexeme lexeme) {
            int cells = 0;
            for (int number = 0; number < words.size(); number++) {
                Word word = wordNumbered(number);
                if (word != null && word.lexeme == lexeme) {
                    cells |= 1 << word.cell;
                }
            }
            return cells;
        }

        int cellsShared(Lexeme lexeme, int one, int other) {
            int cells = 0;
            for (int number = 0; number < words.size(); number++) {
                Word word = wordNumbered(number);
                if (word != null && word.lexeme == lexeme && word.speaker == one && wasHeardBy(other, word)) {
                    cells |= 1 << word.cell;
                }
            }
            return cells;
        }

        private boolean wasHeardBy(int speaker, Word word) {
            for (int number = 0; number < words.size(); number++) {
                Word like = wordNumbered(number);
                if (like != null && like.speaker == speaker && like.lexeme == word.lexeme
                        && like.cell == word.cell && like.form == word.form) {
                    return true;
                }
            }
            return false;
        }

        /** Returns how many words were moved. */
        int mergeInto(Lexeme from, Lexeme to) {
            Change change = begin(from, to, false);
            to.exceptions.fillGapsFrom(from.exceptions);
            change.moved = moveWords(from, to, ALL_CELLS);
            from.isGone = true;
            return Long.bitCount(change.moved);
        }

        /** Returns the number of the new lexeme. */
        int splitOff(Lexeme from, int cells) {
            Lexeme to = addLexeme(from.form);
            Change change = begin(from, to, true);
            from.exceptions.moveTo(to.exceptions, cells);
            change.moved = moveWords(from, to, cells);
            return to.number;
        }

        private Change begin(Lexeme from, Lexeme to, boolean isSplit) {
            Change change = new Change(from, to, isSplit);
            change.exceptions.copyFrom(change.staying().exceptions);
            changes.add(change);
            return change;
        }

        private long moveWords(Lexeme from, Lexeme to, int cells) {
            long moved = 0;
            for (int number = 0; number < words.size(); number++) {
                Word word = wordNumbered(number);
                if (word != null && word.lexeme == from && (cells >>> word.cell & 1) != 0) {
                    word.lexeme = to;
                    moved |= 1L << number;
                }
            }
            return moved;
        }

        /** Returns how many merges and splits are left. */
        int takeBack() {
            int last = changes.size() - 1;
            if (last < 0) {
                return 0;
            }
            Change change = changes.remove(last);
            for (int number = 0; number < words.size(); number++) {
                Word word = words.get(number);
                boolean isBack = change.isSplit ? word.lexeme == change.to : (change.moved >>> number & 1) != 0;
                if (isBack) {
                    word.lexeme = change.from;
                }
            }
            change.staying().exceptions.copyFrom(change.exceptions);
            change.to.isGone = change.isSplit;
            change.from.isGone = false;
            return last;
        }
    }
}
