/**
 * What a camp tells of itself, as texts, in parts that take some two hundred calls each: so a part can be told by an
 * object that was made by as many calls, and all parts by as many such objects. Parts may change the camp.
 */
final class Look {
    private static final int LEXEMES = 17;
    static final int PARTS = LEXEMES + 16;

    private final Fieldgrammar camp;
    private final StringBuilder text = new StringBuilder();

    private Look(Fieldgrammar camp) {
        this.camp = camp;
    }

    static String part(int part, Fieldgrammar camp) {
        Look look = new Look(camp);
        if (part < LEXEMES) {
            look.lexeme(part);
        } else {
            look.other(part - LEXEMES);
        }
        return look.text.toString();
    }

    private void tell(String call, Check.Call made) {
        text.append(call).append(' ').append(Check.thrownBy(made)).append("; ");
    }

    /** One more than the numbers there can be, so that the first one outside is asked too. */
    private void lexeme(int lexeme) {
        tell("holes", () -> camp.holes(lexeme));
        for (int cell = 0; cell < 8; cell++) {
            word(lexeme, cell);
            for (int rule = 0; rule < 6; rule++) {
                int asked = rule;
                int in = cell;
                tell("step", () -> camp.step(lexeme, in, asked));
            }
        }
    }

    private void word(int lexeme, int cell) {
        tell("word", () -> Check.spoken(camp, lexeme, cell));
    }

    private void other(int part) {
        switch (part) {
            case 0 -> draft();
            case 1 -> words(0, 20);
            case 2 -> words(20, 41);
            case 3 -> misfits();
            case 4 -> claims();
            case 5 -> pairs();
            case 6 -> shared();
            case 7 -> isOn();
            case 8 -> order();
            case 9 -> kinds();
            case 10 -> soundsLeft();
            case 11 -> kindsLeft();
            case 12 -> rulesLeft();
            case 13 -> lexemesLeft();
            case 14 -> wordsLeft();
            default -> changesLeft();
        }
    }

    /** The draft, by way of an exception, or of a lexeme, if there is none. */
    private void draft() {
        int lexeme = anyLexeme();
        if (lexeme >= 0) {
            camp.except(lexeme, 0, true);
            word(lexeme, 0);
        } else {
            tell("lexeme", () -> camp.lexeme());
            word(0, 0);
        }
        tell("wipe", () -> camp.wipe());
    }

    private int anyLexeme() {
        for (int lexeme = 0; lexeme < LEXEMES; lexeme++) {
            int asked = lexeme;
            if (Check.thrownBy(() -> camp.holes(asked)) instanceof Integer) {
                return lexeme;
            }
        }
        return -1;
    }

    private void words(int from, int end) {
        for (int number = from; number < end; number++) {
            for (int what = 0; what < 5; what++) {
                int word = number;
                int asked = what;
                tell("ofWord", () -> camp.ofWord(word, asked));
            }
        }
    }

    private void misfits() {
        for (int place = 0; place < 41; place++) {
            int asked = place;
            tell("misfit", () -> camp.misfit(asked));
        }
        tell("fitting", () -> camp.fitting());
        tell("smallest", () -> camp.smallest());
        tell("question", () -> camp.question());
    }

    private void claims() {
        for (int rule = 0; rule < 7; rule++) {
            int asked = rule;
            tell("supports", () -> camp.claims(asked, true));
            tell("contradicts", () -> camp.claims(asked, false));
        }
    }

    private void pairs() {
        for (int one = 0; one < 16; one++) {
            for (int other = one + 1; other < 17; other++) {
                int first = one;
                int second = other;
                tell("pairs", () -> camp.pairs(first, second));
            }
        }
    }

    private void shared() {
        for (int one = 0; one < 4; one++) {
            for (int other = 0; other < 4; other++) {
                int first = one;
                int second = other;
                tell("shared", () -> camp.shared(first, second));
            }
        }
    }

    private void isOn() {
        for (int rule = 0; rule < 7; rule++) {
            int asked = rule;
            tell("turn", () -> camp.turn(asked, true));
        }
    }

    private void order() {
        for (int rule = 0; rule < 7; rule++) {
            int asked = rule;
            tell("raise", () -> camp.raise(asked));
        }
    }

    /** The classes, by rules that leave their sounds out. */
    private void kinds() {
        int lexeme = anyLexeme();
        for (int kind = 0; kind < 13; kind++) {
            int asked = kind;
            tell("rule", () -> camp.rule(asked, 0, Fieldgrammar.ANY, Fieldgrammar.ANY));
            word(lexeme, 0);
        }
    }

    private void soundsLeft() {
        for (int features = 0; features < 64; features++) {
            int asked = features;
            tell("sound", () -> camp.sound(asked));
        }
    }

    private void kindsLeft() {
        for (int kind = 0; kind < 13; kind++) {
            tell("kind", () -> camp.kind(0, 0));
        }
    }

    private void rulesLeft() {
        for (int rule = 0; rule < 7; rule++) {
            tell("rule", () -> camp.rule(0, 0, Fieldgrammar.ANY, Fieldgrammar.ANY));
        }
    }

    private void lexemesLeft() {
        for (int lexeme = 0; lexeme < LEXEMES; lexeme++) {
            camp.wipe();
            tell("put", () -> camp.put(0));
            tell("lexeme", () -> camp.lexeme());
        }
    }

    private void wordsLeft() {
        int lexeme = anyLexeme();
        for (int word = 0; word < 41; word++) {
            tell("hear", () -> camp.hear(lexeme, 0, 0));
        }
    }

    /** The merges and splits, by taking back as many as the camps of the tests have. */
    private void changesLeft() {
        for (int change = 0; change < 4; change++) {
            tell("undo", () -> camp.undo());
            for (int lexeme = 0; lexeme < LEXEMES; lexeme++) {
                int asked = lexeme;
                tell("holes", () -> camp.holes(asked));
            }
            for (int lexeme = 0; lexeme < 6; lexeme++) {
                word(lexeme, 5);
            }
        }
    }
}
