import java.util.function.Consumer;

/** The section 'Terms': conventions, settings, words, solvers and answers; and how many calls an object takes. */
final class EdgesOfTerms {
    private static final int[] LOWEST = {10, 0, 0, 0, 0, 0}, HIGHEST = {400, 200, 9, 60, 20, 50}, FIRST = {100, 30, 2, 5, 5, 10};

    private EdgesOfTerms() { }

    static void addTo(Edges e) {
        e.below("What it is");
        calls(e);
        e.below("Terms");
        errors(e);
        errorsChangeNothing(e);
        numbersAndDivisions(e);
        e.below("Settings");
        settings(e);
        e.below("Words");
        words(e);
        votes(e);
        solvers(e);
        rightAndWrong(e);
        agreed(e);
        tooSoon(e);
    }

    /** Three calls, and three for each answer: a know, an add and this many votes, each for another answer. */
    private static void vote(Due d, int many) {
        d.x.put(Due.packed("a"));
        d.x.know(0);
        d.x.add(0);
        for (int i = 0; i < many; i++) {
            d.x.put(Due.packed("0:0=a+1="));
            d.x.put(Due.packed("" + (char) ('a' + i / 26) + (char) ('a' + i % 26) + "@7"));
            d.due("answer " + i, d.x.answer(), 1);
        }
    }

    private static void calls(Edges e) {
        String sentence = "An object is used for at most 512 calls after it has been made";
        e.edge(sentence, d -> {
            vote(d, 169);
            d.due("the 511th call, word(1, 3)", d.x.word(1, 3), 169);
            d.due("the 512th call, vote(1, 168, 1)", d.x.vote(1, 168, 1), 100);
        }).brokenBy("MOST_ANSWERS = 512 / 3", "512 / 3", "168");

        e.edge(sentence, d -> {
            vote(d, 167);
            d.x.save(1);
            d.x.bend(1, 0);
            d.due("restore(1)", d.x.restore(1), 2);
            d.due("word(1, 3)", d.x.word(1, 3), 167);
            d.due("vote(1, 166, 1)", d.x.vote(1, 166, 1), 100);
            d.x.undo();
            d.due("undo()", d.x.undo(), 4);
            d.due("the 512th call, vote(1, 166, 4)", d.x.vote(1, 166, 4), 'a' + 166 / 26);
        }).brokenBy("size = other.size;", "other.size", "Math.min(other.size, 166)");
    }

    private static void errors(Edges e) {
        e.edge("A method that fails returns one of the error codes NO_SUCH (-1), BAD_VALUE (-2), BAD_TEXT (-3), TOO_MANY (-4)"
            + " and NOT_POSSIBLE (-5)", d -> {
            d.due("drop(0)", d.x.drop(0), -1);
            d.due("add(10)", d.x.add(10), -2);
            d.due("answer()", d.x.answer(), -3);
            d.due("undo()", d.x.undo(), -5);
            d.catAnd(new int[11]);
            d.due("add(0)", d.x.add(0), -4);
        })
            .brokenBy("NO_SUCH = -1", "-1", "-7")
            .brokenBy("BAD_VALUE = -2", "-2", "-7")
            .brokenBy("BAD_TEXT = -3", "-3", "-7")
            .brokenBy("TOO_MANY = -4", "-4", "-7")
            .brokenBy("NOT_POSSIBLE = -5", "-5", "-7");

        e.edge("it names its errors in the order in which they are checked, and the first one that applies is returned", d -> {
            d.due("restore(2) with nothing saved", d.x.restore(2), BentWords.BAD_VALUE);
            d.due("know(10) of a bad text", d.know("A", 10), BentWords.BAD_VALUE);
            d.due("answer() of a bad text, without words", d.answer("0:0=a+1=b@0"), BentWords.BAD_TEXT);
            d.due("bend(0, 10) without words", d.x.bend(0, 10), BentWords.NO_SUCH);
            d.due("trust(6, 101)", d.x.trust(6, 101), BentWords.NO_SUCH);
            d.oneOfEachKind();
            d.due("answer() from an unknown word to none", d.answer("0:1=a+4=b@9"), BentWords.NO_SUCH);
            d.due("bend(0, 10)", d.x.bend(0, 10), BentWords.BAD_VALUE);
            d.due("ifVoted(6, 1, 61)", d.x.ifVoted(6, 1, 61), BentWords.NO_SUCH);
            d.due("ifVoted(0, 0, 61)", d.x.ifVoted(0, 0, 61), BentWords.BAD_VALUE);
            d.due("answersFor(6, 0)", d.x.answersFor(6, 0), BentWords.NO_SUCH);
        }).brokenBy("public int restore", "BAD_VALUE", "NOT_POSSIBLE")
            .brokenBy("public int answer()", "reading.readWholeAsAnswer() != NONE",
                "now.hasWord(reading.told.word) && reading.readWholeAsAnswer() != NONE")
            .brokenBy("public int bend", "!now.hasWord(word)", "!now.hasWord(word) && isWithin(bend, 0, MOST_BEND)")
            .brokenBy("public int ifVoted", "if (!isSolver", "if (isWithin(seconds, 1, MOST_SECONDS) && !isSolver");

        e.edge("NONE (-6) is not an error; it is returned only if no error applies", d -> {
            d.due("mostMissed()", d.x.mostMissed(), -6);
            d.catAnd(0);
            d.x.trust(0, 0);
            d.x.set(BentWords.UP, 0);
            d.due("word(1, -1) of no letters", d.x.word(1, -1), BentWords.BAD_VALUE);
            d.due("word(2, 20)", d.x.word(2, 20), BentWords.NO_SUCH);
            d.due("vote(1, 0, 20)", d.x.vote(1, 0, 20), BentWords.NO_SUCH);
            d.due("answersFor(0, 1) of 100 that are not enough", d.x.answersFor(0, 1), -6);
            d.due("answersFor(0, 0) of 100 that are not enough", d.x.answersFor(0, 0), BentWords.NOT_POSSIBLE);
            d.due("answersFor(0, 2) of 100 that are not enough", d.x.answersFor(0, 2), BentWords.NO_SUCH);
        }).brokenBy("NONE = -6", "-6", "-7")
            .brokenBy("public int word(", "if (what < 0", "if (what < 0 && now.words[word].letters != 0")
            .brokenBy("public int answersFor", "kind != UNKNOWN",
                "kind != UNKNOWN && now.solvers[solver].trust + now.settings[UP] > 0");
    }

    /** Does the same on two objects, on one of them with refused calls behind it: then both have to answer alike. */
    private static void dueNothing(Due d, Consumer<Due> state, Consumer<Due> refused) {
        Due twin = new Due(true);
        d.x = new BentWords();
        state.accept(d);
        state.accept(twin);
        refused.accept(d);
        dueAlike(d, "behind the refused calls", twin);
        for (int i = 0; i < 7; i++) {
            d.due("undo()", d.x.undo(), twin.x.undo());
            dueAlike(d, "behind undo", twin);
        }
        for (int slot = 0; slot < 2; slot++) {
            d.due("restore(" + slot + ")", d.x.restore(slot), twin.x.restore(slot));
            dueAlike(d, "behind restore", twin);
        }
    }

    private static void dueAlike(Due d, String when, Due twin) {
        d.due("everything is as it was, " + when, d.everything().compareTo(twin.everything()), 0);
    }

    private static void refused(Due d, String call, int got) {
        d.due(call + " is refused", got <= -1 && got >= -5 ? 1 : 0, 1);
    }

    private static void errorsChangeNothing(Edges e) {
        String sentence = "A call that returns an error changes nothing";
        e.edge(sentence, d -> dueNothing(d, EdgesOfTerms::fullObject, EdgesOfTerms::refuseOnFullObject))
            .brokenBy("public int set", "return BAD_VALUE;", "remember(); return BAD_VALUE;")
            .brokenBy("public int know", "return BAD_VALUE;", "pad.length = 0; return BAD_VALUE;")
            .brokenBy("public int know", "return TOO_MANY;", "pad.length = 0; return TOO_MANY;")
            .brokenBy("public int add", "return TOO_MANY;", "now.words[0].bend = bend; return TOO_MANY;")
            .brokenBy("public int answer()", "return BAD_TEXT;", "pad.length = 0; return BAD_TEXT;")
            .brokenBy("public int bend", "return NO_SUCH;", "now.settings[AGREE] = 11; return NO_SUCH;")
            .brokenBy("public int bend", "return BAD_VALUE;", "now.words[word].bend = 0; return BAD_VALUE;")
            .brokenBy("public int bend", "return NOT_POSSIBLE;", "now.words[word].bend = bend; return NOT_POSSIBLE;")
            .brokenBy("public int drop", "return NO_SUCH;", "remember(); return NO_SUCH;")
            .brokenBy("public int trust", "return BAD_VALUE;", "now.solvers[solver].trust = 0; return BAD_VALUE;")
            .brokenBy("public int put", "return BAD_VALUE;", "pad.length++; return BAD_VALUE;")
            .brokenBy("public int restore", "return BAD_VALUE;", "remember(); return BAD_VALUE;")
            .brokenBy("public int restore", "return NOT_POSSIBLE;", "now.copyFrom(slots[slot]); return NOT_POSSIBLE;")
            .brokenBy("public int save", "return BAD_VALUE;", "slots[1].copyFrom(now); return BAD_VALUE;");

        String[] texts = {"0:0=cat+4=a@9", "0:4=cat+1=a@9", "0:0=cat+0=a@9", "0:0=cat+2=a@9", "0:0=cat+3=a@9", "0:1=a+1=a@9",
            "0:3=pig+1=a@9", "0:0=cow+0=a@9", "0:1=a+0=a@9"};
        Edges.Edge answers = e.edge(sentence, d -> {
            for (String text : texts) {
                dueNothing(d, x -> {
                    x.oneOfEachKind();
                    x.x.save(0);
                    x.pad(text);
                }, x -> refused(x, "answer() of " + text, x.x.answer()));
            }
        });
        answers.brokenBy("public int answer()", "return NO_SUCH;", "pad.length = 0; return NO_SUCH;")
            .brokenBy("public int answer()", "return NOT_POSSIBLE;", "now.take(reading); return NOT_POSSIBLE;")
            .brokenBy("public int answer()", "return NOT_POSSIBLE;", "remember(); return NOT_POSSIBLE;");

        e.edge(sentence, d -> dueNothing(d, x -> x.pad("0:0=a+1=b@" + "1".repeat(48)), x -> {
            x.dueCount(16, 58);
            refused(x, "put of three", x.x.put(Due.packed("abc")));
            refused(x, "answer()", x.x.answer());
            refused(x, "know(0)", x.x.know(0));
        })).brokenBy("public int put", "return TOO_MANY;", "pad.length = MOST_CHARACTERS; return TOO_MANY;")
            .brokenBy("public int know", "return BAD_TEXT;", "pad.length = 0; return BAD_TEXT;");

        e.edge(sentence, d -> dueNothing(d, x -> { }, x -> {
            refused(x, "undo()", x.x.undo());
            refused(x, "restore(0)", x.x.restore(0));
            refused(x, "know(0)", x.x.know(0));
            refused(x, "answer()", x.x.answer());
        }))
            .brokenBy("public int undo", "return NOT_POSSIBLE;",
                "now.copyFrom(history[0]); now.settings[UP]++; return NOT_POSSIBLE;")
            .brokenBy("public int know", "return BAD_TEXT;", "remember(); return BAD_TEXT;");
    }

    /** Twelve words, six changes to undo, slot 1 saved, letters in the pad. */
    private static void fullObject(Due d) {
        d.oneOfEachKind();
        for (int i = 4; i < 12; i++) {
            d.x.add(i % 10);
        }
        d.right(1, 5, "a", 9);
        d.wrong(2, 5, "a", 9);
        d.x.save(1);
        d.x.trust(5, 7);
        d.pad("dog");
    }

    private static void refuseOnFullObject(Due d) {
        refused(d, "set(-1, 20)", d.x.set(-1, 20));
        refused(d, "set(6, 20)", d.x.set(6, 20));
        refused(d, "set(0, 9)", d.x.set(0, 9));
        refused(d, "know(10)", d.x.know(10));
        refused(d, "know(0)", d.x.know(0));
        refused(d, "add(10)", d.x.add(10));
        refused(d, "add(3)", d.x.add(3));
        refused(d, "answer()", d.x.answer());
        refused(d, "bend(12, 1)", d.x.bend(12, 1));
        refused(d, "bend(1, 10)", d.x.bend(1, 10));
        refused(d, "bend(0, 1)", d.x.bend(0, 1));
        refused(d, "drop(12)", d.x.drop(12));
        refused(d, "drop(-1)", d.x.drop(-1));
        refused(d, "trust(6, 1)", d.x.trust(6, 1));
        refused(d, "trust(0, 101)", d.x.trust(0, 101));
        refused(d, "word(12, 0)", d.x.word(12, 0));
        refused(d, "word(0, -1)", d.x.word(0, -1));
        refused(d, "vote(5, 1, 0)", d.x.vote(5, 1, 0));
        refused(d, "vote(5, 0, -1)", d.x.vote(5, 0, -1));
        refused(d, "solver(6, 0)", d.x.solver(6, 0));
        refused(d, "solver(0, 5)", d.x.solver(0, 5));
        refused(d, "count(18)", d.x.count(18));
        refused(d, "lacking(12)", d.x.lacking(12));
        refused(d, "lacking(0)", d.x.lacking(0));
        refused(d, "answersFor(0, 12)", d.x.answersFor(0, 12));
        refused(d, "answersFor(0, 3)", d.x.answersFor(0, 3));
        refused(d, "ifVoted(0, 12, 9)", d.x.ifVoted(0, 12, 9));
        refused(d, "ifVoted(0, 5, 61)", d.x.ifVoted(0, 5, 61));
        refused(d, "ifVoted(0, 6, 9)", d.x.ifVoted(0, 6, 9));
        refused(d, "put(0)", d.x.put(0));
        refused(d, "save(2)", d.x.save(2));
        refused(d, "restore(2)", d.x.restore(2));
        refused(d, "restore(0)", d.x.restore(0));
    }

    private static void numbersAndDivisions(Edges e) {
        e.edge("Everything is numbered from 0", d -> {
            d.due("set(0, 50)", d.x.set(0, 50), 100);
            d.due("trust(0, 60)", d.x.trust(0, 60), 50);
            d.due("solver(0, 3), the first place", d.x.solver(0, 3), 0);
            d.due("fault()", d.x.fault(), 0);
            d.catAnd(9);
            d.due("word(0, 0)", d.x.word(0, 0), 0);
            d.right(0, 1, "a", 9);
            d.dueSolver(0, 65, 1, 1);
            d.dueVote(1, 0, 1, 60, 0);
            d.due("save(0)", d.x.save(0), 2);
        }).brokenBy("int append(int kind", "return word;", "return word + 1;")
            .brokenBy("int placeOfAnswer", "before = 0", "before = 1")
            .brokenBy("int rankByWeight", "ahead = 0", "ahead = 1")
            .brokenBy("int rankByTrust", "ahead = 0", "ahead = 1")
            .brokenBy("solver = readDigit(0, SOLVERS - 1)", "readDigit(0, SOLVERS - 1)", "readDigit(1, SOLVERS)");

        e.edge("Divisions are rounded down", d -> {
            d.catAnd(9);
            d.right(0, 1, "a", 1);
            d.right(0, 1, "b", 1);
            d.right(0, 1, "c", 1);
            d.right(0, 1, "d", 4);
            d.due("word(1, 6) of 7 by 4", d.x.word(1, 6), 1);
            d.due("solver(0, 4) of 7 by 4", d.x.solver(0, 4), 1);
            d.right(0, 1, "e", 3);
            d.due("word(1, 6) of 10 by 5", d.x.word(1, 6), 2);
            d.due("solver(0, 4) of 10 by 5", d.x.solver(0, 4), 2);
        })
            .brokenBy("sum / many", "(sum + many / 2) / many")
            .brokenBy("sum / many", "(sum + many - 1) / many")
            .brokenBy("sum / many", "(sum - 1) / many");
    }

    private static void settings(Edges e) {
        String[] sentences = {"AGREE (10 to 400; 100)", "LEAD (0 to 200; 30)", "EARLY (0 to 9; 2)", "FAST (0 to 60; 5)",
            "UP (0 to 20; 5)", "DOWN (0 to 50; 10)"};
        for (int i = 0; i < sentences.length; i++) {
            int setting = i;
            Edges.Edge edge = e.edge(sentences[setting], d -> {
                d.dueCount(setting, FIRST[setting]);
                d.due("too low", d.x.set(setting, LOWEST[setting] - 1), BentWords.BAD_VALUE);
                d.due("too high", d.x.set(setting, HIGHEST[setting] + 1), BentWords.BAD_VALUE);
                d.due("the least number", d.x.set(setting, Integer.MIN_VALUE), BentWords.BAD_VALUE);
                d.due("the most number", d.x.set(setting, Integer.MAX_VALUE), BentWords.BAD_VALUE);
                d.dueCount(setting, FIRST[setting]);
                d.due("the lowest", d.x.set(setting, LOWEST[setting]), FIRST[setting]);
                d.dueCount(setting, LOWEST[setting]);
                d.due("the highest", d.x.set(setting, HIGHEST[setting]), LOWEST[setting]);
                d.dueCount(setting, HIGHEST[setting]);
            });
            for (int by = -1; by <= 1; by += 2) {
                edge.brokenBy("LOWEST = " + row(LOWEST, -1, 0), row(LOWEST, -1, 0), row(LOWEST, setting, by));
                edge.brokenBy("HIGHEST = " + row(HIGHEST, -1, 0), row(HIGHEST, -1, 0), row(HIGHEST, setting, by));
                edge.brokenBy("FIRST = " + row(FIRST, -1, 0), row(FIRST, -1, 0), row(FIRST, setting, by));
            }
        }
    }

    /** The row as it stands in the class, with one element more or less. */
    private static String row(int[] elements, int changed, int by) {
        StringBuilder text = new StringBuilder("{");
        for (int i = 0; i < elements.length; i++) {
            text.append(i == 0 ? "" : ", ").append(elements[i] + (i == changed ? by : 0));
        }
        return text.append("}").toString();
    }

    private static void words(Edges e) {
        e.edge("There are up to 12 words", d -> {
            for (int i = 0; i < 12; i++) {
                d.due("word " + i, i % 3 == 0 ? d.know("k", 1) : d.x.add(1), i);
            }
            d.dueCount(6, 12);
            d.due("a 13th", d.x.add(1), BentWords.TOO_MANY);
            d.due("a 13th, known", d.know("k", 1), BentWords.TOO_MANY);
            d.dueCount(6, 12);
            d.due("word(11, 1)", d.x.word(11, 1), 1);
            d.due("word(12, 1)", d.x.word(12, 1), BentWords.NO_SUCH);
        })
            .brokenBy("MOST_WORDS = 12", "12", "11")
            .brokenBy("MOST_WORDS = 12", "12", "13");

        e.edge("numbered in the order in which they came", d -> {
            for (int i = 0; i < 12; i++) {
                d.due("word " + i, i % 2 == 0 ? d.know("k", (i + 5) % 10) : d.x.add((i + 5) % 10), i);
            }
            for (int i = 0; i < 12; i++) {
                d.dueWord(i, i % 2, (i + 5) % 10);
            }
        }).brokenBy("int append(int kind", "words[word].begin", "words[word == 11 ? 0 : word].begin");

        e.edge("A word has a bend, 0 to 9", d -> {
            d.due("add(0)", d.x.add(0), 0);
            d.due("add(9)", d.x.add(9), 1);
            d.due("add(10)", d.x.add(10), BentWords.BAD_VALUE);
            d.due("add(-1)", d.x.add(-1), BentWords.BAD_VALUE);
            d.due("word(0, 1)", d.x.word(0, 1), 0);
            d.due("word(1, 1)", d.x.word(1, 1), 9);
        })
            .brokenBy("MOST_BEND = 9", "9", "8")
            .brokenBy("MOST_BEND = 9", "9", "10");

        e.edge("and a kind: 0 known, with what it is told; 1 unknown; 2 solved, with what it was agreed on; 3 retired", d -> {
            d.oneOfEachKind();
            for (int kind = 0; kind < 4; kind++) {
                d.due("word(" + kind + ", 0)", d.x.word(kind, 0), kind);
            }
            d.dueLetters(0, "cat");
            d.due("word(1, 8)", d.x.word(1, 8), BentWords.NONE);
            d.dueLetters(2, "dog");
            d.due("word(3, 8)", d.x.word(3, 8), BentWords.NONE);
        }).brokenBy("KNOWN = 0, UNKNOWN = 1, SOLVED = 2, RETIRED = 3", "SOLVED = 2, RETIRED = 3", "SOLVED = 3, RETIRED = 2")
            .brokenBy("private static final int KNOWN = 0, UNKNOWN = 1", "KNOWN = 0, UNKNOWN = 1", "KNOWN = 1, UNKNOWN = 0")
            .brokenBy("word.letters = ballot.leadingLetters(number);", "")
            .brokenBy("if (word.kind == SOLVED) {", "word.letters = ballot.leadingLetters(number); if (word.kind == SOLVED) {");

        e.edge("What a word is, or is answered, is one to six letters a to z", d -> {
            String[] good = {"a", "z", "abcdef", "zyxwvu", "mm"};
            String[] bad = {"", "abcdefg", "`", "{", "A", "Z", "a`", "a{", "abcdeF", "ab-d", "1"};
            d.catAnd(9);
            for (String letters : good) {
                int word = d.know(letters, 0);
                d.dueLetters(word, letters);
                d.due("answered " + letters, d.answer("0:" + word + "=" + letters + "+1=" + letters + "@9"), 1);
            }
            d.due("word(1, 3)", d.x.word(1, 3), 5);
            for (String letters : bad) {
                d.due("told " + letters, d.know(letters, 0), BentWords.BAD_TEXT);
                d.due("the known one answered " + letters, d.answer("0:0=" + letters + "+1=a@9"), BentWords.BAD_TEXT);
                d.due("the unknown one answered " + letters, d.answer("0:0=cat+1=" + letters + "@9"), BentWords.BAD_TEXT);
            }
        })
            .brokenBy("MOST_LETTERS = 6", "6", "5")
            .brokenBy("MOST_LETTERS = 6", "6", "7")
            .brokenBy("letter < 'a'", "letter < '`'")
            .brokenBy("letter < 'a'", "letter <= 'a'")
            .brokenBy("letter > 'z'", "letter > '{'")
            .brokenBy("letter > 'z'", "letter >= 'z'")
            .brokenBy("return part.letters != 0;", "return true;")
            .brokenBy("if (letters == 0) {", "if (letters == 0 && pad.length > 0) {");
    }

    private static void votes(Edges e) {
        e.edge("The weight of an answer is that of all votes for it, together", d -> {
            d.catAnd(9);
            d.right(0, 1, "a", 9);
            d.right(1, 1, "b", 9);
            d.right(0, 1, "a", 9);
            d.right(2, 1, "a", 9);
            d.due("vote(1, 0, 1)", d.x.vote(1, 0, 1), 50 + 55 + 50);
            d.due("vote(1, 1, 1)", d.x.vote(1, 1, 1), 50);
        }).brokenBy("weights[place] += weight;", "+=", "=");

        String leading = "The leading answer of a word is the one with the most weight, of several the one that was voted for first"
            + " (whose first vote came first)";
        e.edge(leading, d -> {
            d.x.set(BentWords.UP, 0);
            d.catAnd(0);
            d.x.trust(0, 40);
            d.x.trust(1, 60);
            d.x.trust(2, 20);
            d.x.trust(3, 1);
            d.right(0, 1, "a", 9);
            d.right(1, 1, "b", 9);
            d.due("word(1, 4), b leads by 20", d.x.word(1, 4), 60);
            d.due("word(1, 5), b leads by 20", d.x.word(1, 5), 20);
            d.right(2, 1, "a", 9);
            d.due("word(1, 5), both have 60", d.x.word(1, 5), 0);
            d.agreeAtOnce();
            d.due("a vote for another one", d.right(3, 1, "c", 9), 2);
            d.dueLetters(1, "a");
        }).brokenBy("private int leadingPlace", "weights[i] > weights[leading]", "weights[i] >= weights[leading]")
            .brokenBy("private int leadingPlace", "weights[i] > weights[leading]", "weights[i] < weights[leading]");

        e.edge(leading, d -> {
            d.x.set(BentWords.UP, 0);
            d.catAnd(0);
            d.x.trust(0, 0);
            d.right(0, 1, "a", 9);
            d.right(0, 1, "b", 9);
            d.right(0, 1, "b", 9);
            d.due("word(1, 4), both have 0", d.x.word(1, 4), 0);
            d.x.set(BentWords.LEAD, 50);
            d.due("answersFor(1, 1)", d.x.answersFor(1, 1), 2);
            d.agreeAtOnce();
            d.right(1, 1, "b", 9);
            d.dueLetters(1, "b");
        }).brokenBy("private int leadingPlace", "weights[i] > weights[leading]", "votes[i] < votes[leading]");

        e.edge("its lead is its weight less the most weight of another answer (less nothing, if there is no other one)", d -> {
            d.x.set(BentWords.UP, 0);
            d.catAnd(9, 9);
            d.right(0, 2, "a", 9);
            d.right(0, 1, "a", 9);
            d.due("word(1, 5) of the only answer", d.x.word(1, 5), 50);
            d.x.trust(1, 0);
            d.right(1, 1, "b", 9);
            d.due("word(1, 5) with another one of 0", d.x.word(1, 5), 50);
            d.x.trust(1, 20);
            d.right(1, 1, "b", 9);
            d.x.trust(1, 10);
            d.right(1, 1, "c", 9);
            d.due("word(1, 5) with others of 20 and 10", d.x.word(1, 5), 30);
            d.x.trust(1, 40);
            d.right(1, 1, "c", 9);
            d.due("word(1, 5) with others of 20 and 50", d.x.word(1, 5), 0);
        })
            .brokenBy("int mostOfOthers = 0;", "0", "1")
            .brokenBy("Math.max(mostOfOthers, weights[i])", "mostOfOthers + weights[i]")
            .brokenBy("Math.max(mostOfOthers, weights[i])", "weights[i]")
            .brokenBy("words[i] == word && i != leading", "i != leading")
            .brokenBy("words[i] == word && i != leading", "words[i] == word");
    }

    private static void solvers(Edges e) {
        e.edge("There are 6 solvers, 0 to 5", d -> {
            d.due("solver(0, 0)", d.x.solver(0, 0), 50);
            d.due("solver(5, 0)", d.x.solver(5, 0), 50);
            d.due("solver(6, 0)", d.x.solver(6, 0), BentWords.NO_SUCH);
            d.due("solver(-1, 0)", d.x.solver(-1, 0), BentWords.NO_SUCH);
            d.due("solver(MIN, 0)", d.x.solver(Integer.MIN_VALUE, 0), BentWords.NO_SUCH);
            d.due("solver(MAX, 0)", d.x.solver(Integer.MAX_VALUE, 0), BentWords.NO_SUCH);
            d.dueCount(15, 300);
            d.catAnd(9);
            d.due("an answer of 5", d.right(5, 1, "a", 9), 1);
            d.due("an answer of 6", d.right(6, 1, "a", 9), BentWords.BAD_TEXT);
        })
            .brokenBy("SOLVERS = 6", "6", "5")
            .brokenBy("SOLVERS = 6", "6", "7")
            .brokenBy("isWithin(solver, 0, SOLVERS - 1)", "0", "-1");

        e.edge("each with trust, 0 to 100 (50 at first)", d -> {
            for (int solver = 0; solver < 6; solver++) {
                d.due("trust(" + solver + ", -1)", d.x.trust(solver, -1), BentWords.BAD_VALUE);
                d.due("trust(" + solver + ", 101)", d.x.trust(solver, 101), BentWords.BAD_VALUE);
                d.due("trust(" + solver + ", 0)", d.x.trust(solver, 0), 50);
                d.due("trust(" + solver + ", 100)", d.x.trust(solver, 100), 0);
                d.due("solver(" + solver + ", 0)", d.x.solver(solver, 0), 100);
            }
        })
            .brokenBy("MOST_TRUST = 100", "100", "99")
            .brokenBy("MOST_TRUST = 100", "100", "101")
            .brokenBy("FIRST_TRUST = 50", "50", "49")
            .brokenBy("isWithin(trust, 0, MOST_TRUST)", "0", "-1")
            .brokenBy("isWithin(trust, 0, MOST_TRUST)", "0", "1");

        e.edge("A solver answers a pair: a known or solved word, and an unknown one, in some seconds", d -> {
            d.oneOfEachKind();
            d.x.set(BentWords.AGREE, 400);
            int[][] dueOfPairs = {{-5, 1, -5, -5}, {-5, -5, -5, -5}, {-5, 1, -5, -5}, {-5, -5, -5, -5}};
            for (int first = 0; first < 4; first++) {
                for (int second = 0; second < 4; second++) {
                    String text = "0:" + first + "=dog+" + second + "=a@9";
                    d.due("answer of " + text, d.answer(text), dueOfPairs[first][second]);
                }
            }
            d.dueCount(11, 4);
        }).brokenBy("return kind == KNOWN || kind == SOLVED;", "kind == KNOWN || kind == SOLVED", "kind == KNOWN")
            .brokenBy("return kind == KNOWN || kind == SOLVED;", "kind == KNOWN || kind == SOLVED", "kind == SOLVED")
            .brokenBy("return kind == KNOWN || kind == SOLVED;", "kind == KNOWN || kind == SOLVED", "kind != UNKNOWN")
            .brokenBy("other.kind != UNKNOWN", "other.kind == SOLVED")
            .brokenBy("other.kind != UNKNOWN", "other.kind == KNOWN");
    }

    private static void rightAndWrong(Edges e) {
        e.edge("If the answer to the first one is what that is, it is right", d -> {
            String[] wrong = {"c", "ca", "cats", "caat", "dat", "cbt", "cas", "tac", "at", "catcat"};
            d.catAnd(9);
            d.x.set(BentWords.DOWN, 0);
            for (int i = 0; i < wrong.length; i++) {
                d.answer("0:0=" + wrong[i] + "+1=cat@9");
                d.due("right answers behind " + wrong[i], d.x.solver(0, 2), 0);
                d.due("missed behind " + wrong[i], d.x.word(0, 7), i + 1);
            }
            d.answer("0:0=cat+1=tac@9");
            d.due("right answers behind cat", d.x.solver(0, 2), 1);
            d.due("missed behind cat", d.x.word(0, 7), wrong.length);
        })
            .brokenBy("told.letters == said.told.letters",
                "told.letters == said.told.letters >> LETTER_BITS || told.letters == said.told.letters")
            .brokenBy("told.letters == said.told.letters", "told.letters >> LETTER_BITS == said.told.letters >> LETTER_BITS")
            .brokenBy("told.letters == said.told.letters", "(told.letters & 1023) == (said.told.letters & 1023)")
            .brokenBy("told.letters == said.told.letters", "told.letters == said.other.letters")
            .brokenBy("told.letters == said.told.letters", "lettersIn(told.letters) == lettersIn(said.told.letters)");

        e.edge("the answer to the unknown word becomes a vote for it, with the trust of the solver (as it is ahead of"
            + " this, also if"
            + " that is 0) as its weight, and these seconds", d -> {
            d.catAnd(9, 9);
            d.x.trust(0, 0);
            d.right(0, 1, "a", 7);
            d.dueWord(1, 1, 9, 1, 1, 0, 0, 7);
            d.dueVote(1, 0, 1, 0, 0, 1, 'a', BentWords.NONE);
            d.right(0, 1, "a", 60);
            d.dueVote(1, 0, 2, 5, 0, 1);
            d.due("word(1, 6)", d.x.word(1, 6), 33);
            d.x.trust(0, 100);
            d.right(0, 2, "b", 1);
            d.dueVote(2, 0, 1, 100);
            d.due("word(2, 6)", d.x.word(2, 6), 1);
            d.right(1, 2, "c", 1);
            d.dueVote(2, 1, 1, 50);
        }).brokenBy("takeVote(said.other, weight,", "weight", "solver.trust")
            .brokenBy("takeVote(said.other, weight, said.seconds);",
                "if (weight > 0) { takeVote(said.other, weight, said.seconds); }")
            .brokenBy("takeVote(said.other, weight, said.seconds);", "weight", "Math.max(1, weight)")
            .brokenBy("word.seconds += seconds;", "word.seconds = seconds;");

        e.edge("the trust becomes UP more, 100 at most", d -> {
            int[][] trusts = {{0, 5}, {94, 99}, {95, 100}, {96, 100}, {99, 100}, {100, 100}};
            d.catAnd(9);
            d.x.set(BentWords.AGREE, 400);
            for (int[] trust : trusts) {
                d.x.trust(3, trust[0]);
                d.right(3, 1, "b", 9);
                d.due("trust of " + trust[0] + " behind a right answer", d.x.solver(3, 0), trust[1]);
                d.x.bend(1, 9);
            }
            d.x.set(BentWords.UP, 20);
            d.x.trust(3, 81);
            d.right(3, 1, "b", 9);
            d.due("trust of 81 and 20 more", d.x.solver(3, 0), 100);
            d.x.set(BentWords.UP, 0);
            d.x.trust(3, 50);
            d.right(3, 1, "b", 9);
            d.due("trust of 50 and 0 more", d.x.solver(3, 0), 50);
        }).brokenBy("Math.min(MOST_TRUST, trust + settings[UP])", "trust + settings[UP]")
            .brokenBy("Math.min(MOST_TRUST, trust + settings[UP])",
                "trust + settings[UP] > MOST_TRUST ? trust : trust + settings[UP]")
            .brokenBy("Math.min(MOST_TRUST, trust + settings[UP])", "Math.min(MOST_TRUST - 1, trust + settings[UP])")
            .brokenBy("solver.trust = trustBehindRight(weight);", "");

        e.edge("Otherwise it is wrong: there is no vote, the word that was answered wrong is missed once more, and"
            + " the trust becomes"
            + " DOWN less, 0 at least", d -> {
            int[][] trusts = {{100, 90}, {11, 1}, {10, 0}, {9, 0}, {1, 0}, {0, 0}};
            d.catAnd(9);
            for (int i = 0; i < trusts.length; i++) {
                d.x.trust(3, trusts[i][0]);
                d.wrong(3, 1, "b", 9);
                d.due("trust of " + trusts[i][0] + " behind a wrong answer", d.x.solver(3, 0), trusts[i][1]);
                d.due("missed", d.x.word(0, 7), i + 1);
            }
            d.dueWord(1, 1, 9, 0, 0, 0, 0, 0, 0);
            d.x.set(BentWords.DOWN, 50);
            d.x.trust(3, 49);
            d.wrong(3, 1, "b", 9);
            d.due("trust of 49 and 50 less", d.x.solver(3, 0), 0);
            d.x.set(BentWords.DOWN, 0);
            d.x.trust(3, 49);
            d.wrong(3, 1, "b", 9);
            d.due("trust of 49 and 0 less", d.x.solver(3, 0), 49);
            d.due("word(1, 2)", d.x.word(1, 2), 0);
        }).brokenBy("Math.max(0, solver.trust - settings[DOWN])", "solver.trust - settings[DOWN]")
            .brokenBy("Math.max(0, solver.trust - settings[DOWN])", "Math.max(1, solver.trust - settings[DOWN])")
            .brokenBy("Math.max(0, solver.trust - settings[DOWN])",
                "solver.trust < settings[DOWN] ? solver.trust : solver.trust - settings[DOWN]")
            .brokenBy("told.missed++;", "told.missed = 1;")
            .brokenBy("told.missed++;", "words[said.other.word].missed++;")
            .brokenBy("told.missed++;", "told.missed++; takeVote(said.other, 0, said.seconds);");
    }

    private static void agreed(Edges e) {
        String sentence = "Behind a vote the word is agreed on, if the weight of its leading answer is at least AGREE and 10 times its"
            + " bend, together, and its lead is at least LEAD";
        e.edge(sentence, d -> {
            d.x.set(BentWords.EARLY, 0);
            d.catAnd(0, 1, 9);
            d.x.set(BentWords.AGREE, 50);
            d.x.trust(0, 49);
            d.due("49 of 50", d.right(0, 1, "a", 9), 1);
            d.x.trust(0, 1);
            d.due("50 of 50", d.right(0, 1, "a", 9), 2);
            d.x.trust(0, 59);
            d.due("59 of 50 and 10", d.right(0, 2, "a", 9), 1);
            d.x.trust(0, 1);
            d.due("60 of 50 and 10", d.right(0, 2, "a", 9), 2);
            d.x.set(BentWords.AGREE, 10);
            d.x.trust(0, 99);
            d.due("99 of 10 and 90", d.right(0, 3, "a", 9), 1);
            d.x.trust(0, 1);
            d.due("100 of 10 and 90", d.right(0, 3, "a", 9), 2);
        })
            .brokenBy("WEIGHT_PER_BEND = 10", "10", "9")
            .brokenBy("WEIGHT_PER_BEND = 10", "10", "11")
            .brokenBy("if (weightLacking(number) > 0) {", "> 0", "> 1")
            .brokenBy("int forWeight = settings[AGREE]", "settings[AGREE]", "1 + settings[AGREE]")
            .brokenBy("settings[AGREE] + WEIGHT_PER_BEND * words[word].bend",
                "Math.max(settings[AGREE], WEIGHT_PER_BEND * words[word].bend)");

        e.edge(sentence, d -> {
            d.x.set(BentWords.EARLY, 0);
            d.x.set(BentWords.AGREE, 400);
            d.catAnd(0, 0);
            d.x.trust(0, 70);
            d.right(0, 1, "a", 9);
            d.x.trust(0, 99);
            d.right(0, 1, "b", 9);
            d.x.set(BentWords.AGREE, 10);
            d.x.trust(0, 0);
            d.due("a lead of 29", d.right(0, 1, "b", 9), 1);
            d.x.trust(0, 1);
            d.due("a lead of 30", d.right(0, 1, "b", 9), 2);
            d.dueWord(1, 2, 0, 4, 2, 100, 30);
            d.x.set(BentWords.LEAD, 0);
            d.x.set(BentWords.AGREE, 50);
            d.x.trust(0, 40);
            d.right(0, 2, "a", 9);
            d.right(0, 2, "b", 9);
            d.x.trust(0, 50);
            d.right(0, 2, "b", 9);
            d.dueWord(2, 2);
        }).brokenBy("int forLead = settings[LEAD]", "settings[LEAD]", "1 + settings[LEAD]")
            .brokenBy("int forLead = settings[LEAD]", "settings[LEAD]", "settings[LEAD] - 1");

        e.edge(sentence, d -> {
            d.x.set(BentWords.EARLY, 0);
            d.x.set(BentWords.AGREE, 400);
            d.catAnd(0);
            d.right(1, 1, "a", 9);
            d.right(2, 1, "b", 9);
            d.x.set(BentWords.LEAD, 0);
            d.x.set(BentWords.AGREE, 50);
            d.dueWord(1, 1);
            d.due("behind a wrong answer", d.wrong(3, 1, "a", 9), 1);
            d.x.trust(4, 0);
            d.due("behind a vote of 0 for a third answer, with a lead of 0", d.right(4, 1, "c", 9), 2);
            d.dueLetters(1, "a");
        }).brokenBy("told.missed++;", "told.missed++; lookBehindVote(said.other.word);")
            .brokenBy("int forLead = settings[LEAD]", "settings[LEAD]", "Math.max(1, settings[LEAD])")
            .brokenBy("lookBehindVote(part.word);", "if (weight > 0) { lookBehindVote(part.word); }");

        e.edge("Otherwise it is solved, as its leading answer", d -> {
            d.agreeAtOnce();
            d.x.set(BentWords.AGREE, 400);
            d.catAnd(0);
            d.right(1, 1, "zebra", 9);
            d.right(1, 1, "ape", 9);
            d.x.set(BentWords.AGREE, 50);
            d.x.trust(1, 4);
            d.due("a vote for the one behind", d.right(1, 1, "zebra", 9), 2);
            d.dueLetters(1, "ape");
            d.dueCount(14, 1);
        }).brokenBy("word.letters = ballot.leadingLetters(number);", "word.letters = ballot.letters[0];")
            .brokenBy("solvedSoFar++;", "");

        e.edge("Its votes stay", d -> {
            d.agreeAtOnce();
            d.catAnd(0, 0);
            d.due("solving", d.right(0, 1, "ab", 7), 2);
            d.due("retiring", d.right(1, 2, "cd", 4), 3);
            d.dueWord(1, 2, 0, 1, 1, 50, 50, 7, 0, 2);
            d.dueVote(1, 0, 1, 50, 0, 2, 'a', 'b', BentWords.NONE);
            d.dueWord(2, 3, 0, 1, 1, 50, 50, 4, 0, BentWords.NONE);
            d.dueVote(2, 0, 1, 50, 0, 2, 'c', 'd', BentWords.NONE);
        }).brokenBy("solvedSoFar++;", "solvedSoFar++; ballot.forget(number);")
            .brokenBy("retiredSoFar++;", "retiredSoFar++; ballot.forget(number);")
            .brokenBy("retiredSoFar++;", "retiredSoFar++; word.seconds = 0;")
            .brokenBy("solvedSoFar++;", "solvedSoFar++; word.votes = 0;");
    }

    private static void tooSoon(Edges e) {
        String early = "If it is agreed on with at most EARLY votes in all";
        e.edge(early, d -> {
            int[][] rows = {{0, 1, 2}, {1, 1, 3}, {1, 2, 2}, {2, 2, 3}, {2, 3, 2}, {9, 9, 3}, {9, 10, 2}};
            for (int[] row : rows) {
                d.x = new BentWords();
                d.x.set(BentWords.EARLY, row[0]);
                d.x.set(BentWords.UP, 0);
                d.catAnd(0);
                d.x.trust(0, 10);
                d.x.set(BentWords.LEAD, 0);
                d.x.set(BentWords.AGREE, 10 * row[1]);
                for (int i = 1; i < row[1]; i++) {
                    d.due("vote " + i, d.right(0, 1, "a", 9), 1);
                }
                d.due("EARLY " + row[0] + ", with " + row[1] + " votes", d.right(0, 1, "a", 9), row[2]);
            }
        })
            .brokenBy("votes <= settings[EARLY]", "votes < settings[EARLY]")
            .brokenBy("votes <= settings[EARLY]", "votes <= settings[EARLY] + 1")
            .brokenBy("votes <= settings[EARLY]", "settings[EARLY] > 0 && votes <= settings[EARLY] - 1");

        e.edge(early, d -> {
            d.catAnd(0);
            d.x.trust(0, 0);
            d.right(0, 1, "b", 9);
            d.x.trust(1, 60);
            d.right(1, 1, "a", 9);
            d.due("two votes for it, three in all", d.right(1, 1, "a", 9), 2);
        }).brokenBy("kindWhenAgreed(word.votes, word.seconds)", "word.votes", "ballot.votes[1]");

        String fast = "or the mean of the seconds of all its votes is below FAST, this was too soon: it is retired";
        e.edge(fast, d -> {
            int[][] rows = {{5, 5, 2}, {5, 4, 3}, {0, 1, 2}, {1, 1, 2}, {2, 1, 3}, {60, 60, 2}, {60, 59, 3}};
            for (int[] row : rows) {
                d.x = new BentWords();
                d.agreeAtOnce();
                d.x.set(BentWords.FAST, row[0]);
                d.catAnd(0);
                d.due("FAST " + row[0] + ", in " + row[1] + " seconds", d.right(0, 1, "a", row[1]), row[2]);
                d.dueCount(13, row[2] == 3 ? 1 : 0);
                d.dueCount(14, row[2] == 2 ? 1 : 0);
            }
        }).brokenBy("mean(seconds, votes) < settings[FAST]", "<", "<=")
            .brokenBy("mean(seconds, votes) < settings[FAST]", "< settings[FAST]", "< settings[FAST] - 1")
            .brokenBy("retiredSoFar++;", "")
            .brokenBy("isTooSoon ? RETIRED : SOLVED", "isTooSoon ? UNKNOWN : SOLVED");

        e.edge(fast, d -> {
            int[][] rows = {{4, 5, 6, 2}, {4, 5, 5, 3}, {1, 1, 13, 2}, {1, 1, 12, 3}, {1, 12, 1, 3}, {13, 1, 1, 2}};
            for (int[] row : rows) {
                d.x = new BentWords();
                d.x.set(BentWords.EARLY, 0);
                d.catAnd(0);
                d.x.trust(0, 20);
                d.right(0, 1, "b", row[0]);
                d.right(1, 1, "a", row[1]);
                String call = "in " + row[0] + ", " + row[1] + " and " + row[2] + " seconds";
                d.due(call, d.right(1, 1, "a", row[2]), row[3]);
            }
        }).brokenBy("word.seconds += seconds;", "word.seconds = seconds * word.votes;")
            .brokenBy("word.seconds += seconds;", "word.seconds += ballot.weights[0] == 20 && word.votes == 1 ? 5 : seconds;");
    }
}
