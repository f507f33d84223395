/** Promises 1 to 8: a new object, and the changes. */
final class EdgesOfChanges {
    private EdgesOfChanges() { }

    static void addTo(Edges e) {
        e.below("Promise 1: A new object");
        newObject(e);
        e.below("Promise 2: set");
        set(e);
        e.below("Promise 3: know");
        know(e);
        e.below("Promise 4: add");
        add(e);
        e.below("Promise 5: answer");
        answer(e);
        answerRefused(e);
        e.below("Promise 6: bend");
        bend(e);
        bendRefused(e);
        e.below("Promise 7: drop");
        drop(e);
        e.below("Promise 8: trust");
        trust(e);
    }

    private static void newObject(Edges e) {
        e.edge("Creates solvers, and no words", d -> {
            for (int solver = 0; solver < 6; solver++) {
                d.dueSolver(solver, 50, 0, 0, solver, 0);
            }
            int[] counts = {100, 30, 2, 5, 5, 10, 0, 0, 0, 0, 0, 0, 0, 0, 0, 300, 0, 0};
            for (int what = 0; what < counts.length; what++) {
                d.dueCount(what, counts[what]);
            }
            d.due("word(0, 0)", d.x.word(0, 0), BentWords.NO_SUCH);
            d.due("drop(0)", d.x.drop(0), BentWords.NO_SUCH);
            d.due("mostMissed()", d.x.mostMissed(), BentWords.NONE);
            d.due("nearest()", d.x.nearest(), BentWords.NONE);
        })
            .brokenBy("int wordCount, retiredSoFar", "wordCount", "wordCount = 1")
            .brokenBy("FIRST_TRUST = 50", "50", "0");
    }

    private static void set(Edges e) {
        e.edge("words that have votes are looked at again with their next vote alone", d -> {
            d.x.set(BentWords.EARLY, 0);
            d.catAnd(0, 0);
            d.right(0, 1, "a", 9);
            d.right(1, 2, "a", 9);
            d.x.set(BentWords.AGREE, 10);
            d.dueWord(1, 1, 0, 1, 1, 50, 50, 9);
            d.dueWord(2, 1, 0, 1, 1, 50, 50, 9);
            d.due("lacking(1)", d.x.lacking(1), 0);
            d.due("a vote for word 2", d.right(2, 2, "a", 9), 2);
            d.dueWord(1, 1);
            d.x.set(BentWords.FAST, 60);
            d.dueWord(2, 2);
            d.due("a vote for word 1", d.right(2, 1, "a", 9), 3);
        })
            .brokenBy("now.settings[setting] = value;",
                "now.settings[setting] = value; if (now.ballot.size > 0) { now.lookBehindVote(1); }")
            .brokenBy("if (weightLacking(number) > 0) {",
                "if (words[1].votes > 0) { words[1].kind = SOLVED; } if (weightLacking(number) > 0) {");

        e.edge("BAD_VALUE if there is no such setting", d -> {
            int[] settings = {-1, 6, Integer.MIN_VALUE, Integer.MAX_VALUE};
            for (int setting : settings) {
                d.due("set(" + setting + ", 20)", d.x.set(setting, 20), BentWords.BAD_VALUE);
                d.due("set(" + setting + ", 0)", d.x.set(setting, 0), BentWords.BAD_VALUE);
            }
            d.due("set(5, 20)", d.x.set(5, 20), 10);
            d.due("set(0, 20)", d.x.set(0, 20), 100);
        })
            .brokenBy("isWithin(setting, 0, SETTINGS - 1) ||", "0", "-1")
            .brokenBy("isWithin(setting, 0, SETTINGS - 1) ||", "0", "1")
            .brokenBy("isWithin(setting, 0, SETTINGS - 1) ||", "SETTINGS - 1", "SETTINGS")
            .brokenBy("isWithin(setting, 0, SETTINGS - 1) ||", "SETTINGS - 1", "SETTINGS - 2")
            .brokenBy("public int set", "return BAD_VALUE", "return NO_SUCH");

        e.edge("or value is out of its range", d -> {
            int[][] refused = {{0, 9}, {0, 401}, {1, -1}, {1, 201}, {2, -1}, {2, 10}, {3, -1}, {3, 61}, {4, -1}, {4, 21}, {5, -1}, {5, 51}};
            for (int[] row : refused) {
                d.due("set(" + row[0] + ", " + row[1] + ")", d.x.set(row[0], row[1]), BentWords.BAD_VALUE);
            }
            int[][] taken = {{0, 10, 100}, {0, 400, 10}, {1, 0, 30}, {1, 200, 0}, {2, 0, 2}, {2, 9, 0}, {3, 0, 5}, {3, 60, 0},
                {4, 0, 5}, {4, 20, 0}, {5, 0, 10}, {5, 50, 0}};
            for (int[] row : taken) {
                d.due("set(" + row[0] + ", " + row[1] + ")", d.x.set(row[0], row[1]), row[2]);
            }
        }).brokenBy("!isWithin(value, LOWEST[setting], HIGHEST[setting])", "value < LOWEST[setting]")
            .brokenBy("!isWithin(value, LOWEST[setting], HIGHEST[setting])", "value > HIGHEST[setting]")
            .brokenBy("!isWithin(value, LOWEST[setting], HIGHEST[setting])",
                "!isWithin(value, LOWEST[setting], HIGHEST[setting] - 1)");
    }

    private static void know(Edges e) {
        e.edge("Adds a known word, which is the pad; the pad is emptied", d -> {
            d.due("know of z", d.know("z", 4), 0);
            d.dueCount(16, 0);
            d.dueLetters(0, "z");
            d.due("know of abcdef", d.know("abcdef", 5), 1);
            d.dueCount(16, 0);
            d.dueLetters(1, "abcdef");
            d.due("know(0) once more", d.x.know(0), BentWords.BAD_TEXT);
            d.due("put of one", d.x.put('x'), 1);
        })
            .brokenBy("public int know", "pad.length = 0;", "")
            .brokenBy("public int know", "pad.length = 0;", "pad.length = Math.max(0, pad.length - 5);");

        e.edge("bend: 0 to 9", d -> {
            d.due("know(0)", d.know("a", 0), 0);
            d.due("know(9)", d.know("a", 9), 1);
            d.dueWord(0, 0, 0);
            d.dueWord(1, 0, 9);
        })
            .brokenBy("public int know", "isWithin(bend, 0,", "isWithin(bend, 1,")
            .brokenBy("public int know", "MOST_BEND", "MOST_BEND - 1");

        e.edge("BAD_VALUE if bend is out of range", d -> {
            int[] bends = {-1, 10, Integer.MIN_VALUE, Integer.MAX_VALUE};
            for (int bend : bends) {
                d.due("know(" + bend + ")", d.know("a", bend), BentWords.BAD_VALUE);
            }
            d.dueCount(6, 0);
        })
            .brokenBy("public int know", "isWithin(bend, 0,", "isWithin(bend, -1,")
            .brokenBy("public int know", "MOST_BEND", "MOST_BEND + 1")
            .brokenBy("public int know", "!isWithin(bend, 0, MOST_BEND)", "bend < 0")
            .brokenBy("public int know", "BAD_VALUE", "BAD_TEXT");

        e.edge("BAD_TEXT if the pad is not one to six letters a to z", d -> {
            String[] bad = {"", "abcdefg", "abcdef+", "`", "{", "a`", "{a", "A", "Z", "abcdeZ", "a1", "1a", "ab=cd", "!", "~", "0:0=a+1=b@9",
                "abcdefghijklmnopqrstuvwxyzabcdefghijklmnopqrstuvwxyzabcdefgh"};
            for (String text : bad) {
                d.due("know of " + text, d.know(text, 0), BentWords.BAD_TEXT);
                d.dueCount(16, text.length());
            }
            d.due("know of a", d.know("a", 0), 0);
            d.due("know of z", d.know("z", 0), 1);
            d.due("know of abcdef", d.know("abcdef", 0), 2);
        }).brokenBy("return at == pad.length ? letters : 0;", "at == pad.length ? letters : 0", "letters")
            .brokenBy("public int know", "if (letters == 0) {", "if (letters == 0 && pad.length > 0) {")
            .brokenBy("MOST_LETTERS = 6", "6", "7")
            .brokenBy("MOST_LETTERS = 6", "6", "5")
            .brokenBy("public int know", "BAD_TEXT", "BAD_VALUE");

        e.edge("TOO_MANY if there are 12 words", d -> {
            for (int i = 0; i < 12; i++) {
                d.due("know", d.know("a", i % 10), i);
            }
            d.due("a 13th", d.know("a", 0), BentWords.TOO_MANY);
            d.dueCount(6, 12);
            d.dueCount(16, 1);
            d.x.drop(5);
            d.due("a 12th again", d.x.know(3), 11);
            d.dueWord(11, 0, 3);
        })
            .brokenBy("return wordCount < MOST_WORDS;", "MOST_WORDS", "MOST_WORDS - 1")
            .brokenBy("public int know", "TOO_MANY", "NOT_POSSIBLE")
            .brokenBy("public int know", "!now.hasRoom()", "false");

        e.edge("BAD_VALUE if bend is out of range; BAD_TEXT if the pad is not one to six letters a to z; TOO_MANY if"
            + " there are 12 words", d -> {
            d.due("know(10) of A", d.know("A", 10), BentWords.BAD_VALUE);
            for (int i = 0; i < 12; i++) {
                d.know("a", 1);
            }
            d.due("a 13th of A, bent by 10", d.know("A", 10), BentWords.BAD_VALUE);
            d.due("a 13th of A", d.know("A", 9), BentWords.BAD_TEXT);
            d.due("a 13th of a, bent by -1", d.know("a", -1), BentWords.BAD_VALUE);
            d.due("a 13th of a", d.know("a", 0), BentWords.TOO_MANY);
        }).brokenBy("public int know", "!isWithin(bend, 0, MOST_BEND)", "now.hasRoom() && !isWithin(bend, 0, MOST_BEND)")
            .brokenBy("public int know", "letters == 0", "now.hasRoom() && letters == 0")
            .brokenBy("public int know", "!isWithin(bend, 0, MOST_BEND)",
                "reading.readWholeAsLetters() != 0 && !isWithin(bend, 0, MOST_BEND)");
    }

    private static void add(Edges e) {
        e.edge("bend: 0 to 9", d -> {
            d.due("add(0)", d.x.add(0), 0);
            d.due("add(9)", d.x.add(9), 1);
            d.dueWord(0, 1, 0);
            d.dueWord(1, 1, 9);
        })
            .brokenBy("public int add", "isWithin(bend, 0,", "isWithin(bend, 1,")
            .brokenBy("public int add", "MOST_BEND", "MOST_BEND - 1");

        e.edge("BAD_VALUE if bend is out of range", d -> {
            int[] bends = {-1, 10, Integer.MIN_VALUE, Integer.MAX_VALUE};
            for (int bend : bends) {
                d.due("add(" + bend + ")", d.x.add(bend), BentWords.BAD_VALUE);
            }
            d.dueCount(6, 0);
        })
            .brokenBy("public int add", "isWithin(bend, 0,", "isWithin(bend, -1,")
            .brokenBy("public int add", "MOST_BEND", "MOST_BEND + 1")
            .brokenBy("public int add", "!isWithin(bend, 0, MOST_BEND)", "bend < 0")
            .brokenBy("public int add", "BAD_VALUE", "NO_SUCH");

        e.edge("TOO_MANY if there are 12 words", d -> {
            d.pad("abc");
            for (int i = 0; i < 12; i++) {
                d.due("add", d.x.add(i % 10), i);
            }
            d.due("a 13th", d.x.add(0), BentWords.TOO_MANY);
            d.dueCount(6, 12);
            d.x.drop(0);
            d.due("a 12th again", d.x.add(3), 11);
            d.dueWord(11, 1, 3);
            d.due("a 13th", d.x.add(0), BentWords.TOO_MANY);
            d.dueCount(16, 3);
            d.x.undo();
            d.due("a 12th once more", d.x.add(4), 11);
        })
            .brokenBy("return wordCount < MOST_WORDS;", "MOST_WORDS", "MOST_WORDS - 1")
            .brokenBy("public int add", "TOO_MANY", "NOT_POSSIBLE")
            .brokenBy("public int add", "!now.hasRoom()", "false");

        e.edge("BAD_VALUE if bend is out of range; TOO_MANY if there are 12 words", d -> {
            d.catAnd(new int[11]);
            d.due("a 13th, bent by 10", d.x.add(10), BentWords.BAD_VALUE);
            d.due("a 13th, bent by -1", d.x.add(-1), BentWords.BAD_VALUE);
            d.due("a 13th", d.x.add(9), BentWords.TOO_MANY);
        }).brokenBy("public int add", "!isWithin(bend, 0, MOST_BEND)", "now.hasRoom() && !isWithin(bend, 0, MOST_BEND)");
    }

    private static void answer(Edges e) {
        e.edge("Does the answer of the pad, and empties the pad", d -> {
            d.catAnd(0);
            d.due("a right one", d.right(0, 1, "a", 9), 1);
            d.dueCount(16, 0);
            d.due("answer() once more", d.x.answer(), BentWords.BAD_TEXT);
            d.due("a wrong one", d.wrong(0, 1, "a", 9), 1);
            d.dueCount(16, 0);
            d.due("one that agrees", d.right(1, 1, "a", 9), 3);
            d.dueCount(16, 0);
            d.dueCount(11, 3);
        }).brokenBy("public int answer()", "pad.length = 0;", "")
            .brokenBy("public int answer()", "pad.length = 0;",
                "if (now.words[reading.told.word].letters == reading.told.letters) { pad.length = 0; }");

        e.edge("Returns the kind of the unknown word then", d -> {
            d.agreeAtOnce();
            d.catAnd(0, 9, 0);
            d.due("still unknown", d.right(0, 2, "a", 9), 1);
            d.due("solved", d.right(0, 1, "a", 5), 2);
            d.due("retired", d.right(0, 3, "a", 4), 3);
        }).brokenBy("public int answer()", "return other.kind;", "return UNKNOWN;")
            .brokenBy("public int answer()", "return other.kind;", "return Math.min(SOLVED, other.kind);")
            .brokenBy("public int answer()", "return other.kind;", "return now.words[reading.told.word].kind;");

        e.edge("(1 also if the answer to the known one was wrong)", d -> {
            d.catAnd(0);
            d.due("a wrong one", d.wrong(0, 1, "a", 9), 1);
            d.right(0, 1, "a", 9);
            d.x.set(BentWords.AGREE, 10);
            d.due("lacking(1)", d.x.lacking(1), 0);
            d.due("a wrong one, when nothing is lacking", d.wrong(0, 1, "a", 9), 1);
            d.dueWord(1, 1);
        }).brokenBy("public int answer()", "return other.kind;",
            "return now.words[reading.told.word].letters == reading.told.letters ? other.kind : NONE;")
            .brokenBy("told.missed++;", "told.missed++; lookBehindVote(said.other.word);");
    }

    private static void answerRefused(Edges e) {
        e.edge("BAD_TEXT if the pad has a fault", d -> {
            String[] bad = {"", "cat", "0", "0:0=cat+1=a@", "0:0=cat+1=a", "0:0=cat+1=a@0", "0:0=cat+1=a@61", "0:0=cat+1=a@9+", "6:0=cat+1=a@9",
                "0:00=cat+1=a@9", "0:0=cat+12=a@9", "0:0=cat+1=abcdefg@9", "0:0=+1=a@9"};
            d.catAnd(9);
            for (String text : bad) {
                d.due("answer of " + text, d.answer(text), BentWords.BAD_TEXT);
                d.dueCount(16, text.length());
            }
            d.dueCount(11, 0);
            d.due("without a fault", d.answer("0:0=cat+1=a@9"), 1);
        }).brokenBy("public int answer()", "reading.readWholeAsAnswer() != NONE", "reading.readWholeAsAnswer() == 0")
            .brokenBy("public int answer()", "reading.readWholeAsAnswer() != NONE",
                "isWithin(reading.readWholeAsAnswer(), 0, pad.length - 1)")
            .brokenBy("public int answer()", "BAD_TEXT", "BAD_VALUE");

        e.edge("NO_SUCH if there is no such word", d -> {
            d.due("without words", d.answer("0:0=a+0=a@9"), BentWords.NO_SUCH);
            d.catAnd(9);
            d.due("a second word 2 of 2", d.right(0, 2, "a", 9), BentWords.NO_SUCH);
            d.due("a second word 11 of 2", d.right(0, 11, "a", 9), BentWords.NO_SUCH);
            d.due("a first word 2 of 2", d.answer("0:2=cat+1=a@9"), BentWords.NO_SUCH);
            d.due("a first word 11 of 2", d.answer("0:11=cat+1=a@9"), BentWords.NO_SUCH);
            d.due("a second word 1 of 2", d.right(0, 1, "a", 9), 1);
            for (int i = 2; i < 12; i++) {
                d.x.add(9);
            }
            d.due("a second word 11 of 12", d.right(0, 11, "a", 9), 1);
            d.x.drop(11);
            d.due("a second word 11 of 11", d.right(0, 11, "a", 9), BentWords.NO_SUCH);
        }).brokenBy("public int answer()", "!now.hasWord(reading.told.word) ||", "")
            .brokenBy("public int answer()", "|| !now.hasWord(reading.other.word)", "")
            .brokenBy("return word >= 0 && word < wordCount;", "word < wordCount", "word <= wordCount");

        e.edge("NOT_POSSIBLE if the first word is neither known nor solved", d -> {
            d.oneOfEachKind();
            d.x.set(BentWords.AGREE, 400);
            d.due("an unknown one first", d.answer("0:1=cat+1=a@9"), BentWords.NOT_POSSIBLE);
            d.due("a retired one first", d.answer("0:3=pig+1=a@9"), BentWords.NOT_POSSIBLE);
            d.due("a solved one first", d.answer("0:2=dog+1=a@9"), 1);
            d.due("a known one first", d.answer("0:0=cat+1=a@9"), 1);
            d.dueCount(12, 4);
        })
            .brokenBy("!now.words[reading.told.word].isTold() ||", "")
            .brokenBy("!now.words[reading.told.word].isTold() ||", "now.words[reading.told.word].kind == RETIRED ||")
            .brokenBy("!now.words[reading.told.word].isTold() ||", "now.words[reading.told.word].kind == UNKNOWN ||")
            .brokenBy("!now.words[reading.told.word].isTold() ||", "now.words[reading.told.word].kind != KNOWN ||");

        e.edge("or the second one is not unknown", d -> {
            d.oneOfEachKind();
            d.due("a known one second", d.right(0, 0, "a", 9), BentWords.NOT_POSSIBLE);
            d.due("a solved one second", d.right(0, 2, "a", 9), BentWords.NOT_POSSIBLE);
            d.due("a retired one second", d.right(0, 3, "a", 9), BentWords.NOT_POSSIBLE);
            d.due("a solved one twice", d.answer("0:2=dog+2=a@9"), BentWords.NOT_POSSIBLE);
            d.due("an answer that is wrong, to a known one", d.wrong(0, 0, "a", 9), BentWords.NOT_POSSIBLE);
            d.due("an unknown one second", d.right(0, 1, "a", 9), 1);
        })
            .brokenBy("public int answer()", "|| other.kind != UNKNOWN", "")
            .brokenBy("public int answer()", "other.kind != UNKNOWN", "other.kind == KNOWN")
            .brokenBy("public int answer()", "other.kind != UNKNOWN", "other.kind == RETIRED");

        e.edge("BAD_TEXT if the pad has a fault; NO_SUCH if there is no such word; NOT_POSSIBLE if the first word is"
            + " neither known nor solved,"
            + " or the second one is not unknown", d -> {
            d.due("a text that goes on, without words", d.answer("0:0=a+1=b@77"), BentWords.BAD_TEXT);
            d.oneOfEachKind();
            d.due("a text that ends too early, from an unknown word", d.answer("0:1=a+0=b@"), BentWords.BAD_TEXT);
            d.due("from an unknown word to none", d.answer("0:1=a+4=b@9"), BentWords.NO_SUCH);
            d.due("from none to a known word", d.answer("0:4=a+0=b@9"), BentWords.NO_SUCH);
            d.due("from a retired word to none", d.answer("0:3=a+11=b@9"), BentWords.NO_SUCH);
        })
            .brokenBy("|| !now.hasWord(reading.other.word)",
                "|| now.words[reading.told.word].isTold() && !now.hasWord(reading.other.word)")
            .brokenBy("public int answer()", "reading.readWholeAsAnswer() != NONE",
                "reading.readWholeAsAnswer() != NONE && now.wordCount > 0");
    }

    private static void bend(Edges e) {
        e.edge("Bends a word anew: it is unknown, without votes, and not missed any more", d -> {
            d.oneOfEachKind();
            d.right(1, 1, "a", 9);
            d.right(2, 1, "b", 9);
            d.answer("3:2=x+1=a@9");
            d.answer("3:2=y+1=a@9");
            d.dueWord(1, 1, 9, 2, 2, 50, 0, 9, 0);
            d.dueWord(2, 2, 0, 1, 1, 50, 50, 9, 2, 3);
            d.dueWord(3, 3, 0, 1, 1, 55, 55, 1, 0);
            for (int word = 1; word < 4; word++) {
                d.x.bend(word, word);
                d.dueWord(word, 1, word, 0, 0, 0, 0, 0, 0, BentWords.NONE, BentWords.NONE);
                d.due("vote(" + word + ", 0, 0)", d.x.vote(word, 0, 0), BentWords.NO_SUCH);
            }
            d.due("mostMissed()", d.x.mostMissed(), BentWords.NONE);
            d.due("lacking(3)", d.x.lacking(3), 40);
            d.x.set(BentWords.AGREE, 400);
            d.right(1, 1, "z", 5);
            d.dueWord(1, 1, 1, 1, 1, 55, 55, 5);
            d.dueVote(1, 0, 1, 55, 0, 1, 'z', BentWords.NONE);
        })
            .brokenBy("void begin", "votes = 0;", "")
            .brokenBy("void begin", "missed = 0;", "")
            .brokenBy("void begin", "seconds = 0;", "")
            .brokenBy("public int bend", "now.ballot.forget(word);", "")
            .brokenBy("void begin", "letters = newLetters;", "letters = newLetters == 0 ? letters : newLetters;")
            .brokenBy("public int bend", "UNKNOWN, bend", "before, bend")
            .brokenBy("void begin", "bend = newBend;", "bend = Math.max(bend, newBend);")
            .brokenBy("boolean cast", "votes[place] = 0;", "")
            .brokenBy("boolean cast", "weights[place] = 0;", "");

        e.edge("Bends a word anew: it is unknown, without votes, and not missed any more", d -> {
            d.catAnd(9, 9, 9);
            for (int round = 0; round < 2; round++) {
                for (int word = 1; word < 4; word++) {
                    d.right(word, word, round == 0 ? "a" : "b", 9);
                }
            }
            d.right(3, 3, "b", 9);
            d.x.bend(2, 9);
            d.dueWord(1, 1, 9, 2, 2, 55, 5, 9);
            d.dueVote(1, 0, 1, 50, 1, 1, 'a');
            d.dueVote(1, 1, 1, 55, 0, 1, 'b');
            d.dueWord(2, 1, 9, 0, 0, 0, 0, 0);
            d.dueWord(3, 1, 9, 3, 2, 115, 65, 9);
            d.dueVote(3, 0, 1, 50, 1, 1, 'a');
            d.dueVote(3, 1, 2, 115, 0, 1, 'b');
        })
            .brokenBy("void forget", "words[i] != word", "words[i] < word")
            .brokenBy("void forget", "words[i] != word", "words[i] > word")
            .brokenBy("void forget", "weights[kept] = weights[i];", "")
            .brokenBy("void forget", "letters[kept] = letters[i];", "")
            .brokenBy("void forget", "words[kept] = words[i];", "")
            .brokenBy("void forget", "votes[kept] = votes[i];", "");

        e.edge("bend: 0 to 9", d -> {
            d.x.add(5);
            d.due("bend(0, 0)", d.x.bend(0, 0), 1);
            d.dueWord(0, 1, 0);
            d.due("bend(0, 9)", d.x.bend(0, 9), 1);
            d.dueWord(0, 1, 9);
        })
            .brokenBy("public int bend", "isWithin(bend, 0,", "isWithin(bend, 1,")
            .brokenBy("public int bend", "MOST_BEND", "MOST_BEND - 1");

        e.edge("Returns its kind before", d -> {
            d.oneOfEachKind();
            for (int word = 1; word < 4; word++) {
                d.due("bend(" + word + ", 0)", d.x.bend(word, 0), word);
                d.due("bend(" + word + ", 0) once more", d.x.bend(word, 0), 1);
            }
        })
            .brokenBy("public int bend", "return before;", "return UNKNOWN;")
            .brokenBy("public int bend", "return before;", "return Math.min(before, SOLVED);");
    }

    private static void bendRefused(Edges e) {
        e.edge("NO_SUCH if there is no such word", d -> {
            d.due("bend(0, 0) without words", d.x.bend(0, 0), BentWords.NO_SUCH);
            d.x.add(1);
            int[] words = {-1, 1, 11, 12, Integer.MIN_VALUE, Integer.MAX_VALUE};
            for (int word : words) {
                d.due("bend(" + word + ", 0)", d.x.bend(word, 0), BentWords.NO_SUCH);
            }
            d.due("bend(0, 0)", d.x.bend(0, 0), 1);
        })
            .brokenBy("public int bend", "!now.hasWord(word)", "word >= now.wordCount")
            .brokenBy("public int bend", "!now.hasWord(word)", "word < 0 || word > now.wordCount")
            .brokenBy("public int bend", "NO_SUCH", "BAD_VALUE");

        e.edge("BAD_VALUE if bend is out of range", d -> {
            d.x.add(5);
            int[] bends = {-1, 10, Integer.MIN_VALUE, Integer.MAX_VALUE};
            for (int bend : bends) {
                d.due("bend(0, " + bend + ")", d.x.bend(0, bend), BentWords.BAD_VALUE);
            }
            d.dueWord(0, 1, 5);
        })
            .brokenBy("public int bend", "isWithin(bend, 0,", "isWithin(bend, -1,")
            .brokenBy("public int bend", "MOST_BEND", "MOST_BEND + 1")
            .brokenBy("public int bend", "!isWithin(bend, 0, MOST_BEND)", "bend < 0")
            .brokenBy("public int bend", "BAD_VALUE", "NOT_POSSIBLE");

        e.edge("NOT_POSSIBLE if it is known (0)", d -> {
            d.oneOfEachKind();
            d.due("bend(0, 3)", d.x.bend(0, 3), BentWords.NOT_POSSIBLE);
            d.dueWord(0, 0, 0);
            d.due("bend(2, 3) of a solved one", d.x.bend(2, 3), 2);
        })
            .brokenBy("public int bend", "before == KNOWN", "false")
            .brokenBy("public int bend", "before == KNOWN", "before == KNOWN || before == SOLVED")
            .brokenBy("public int bend", "NOT_POSSIBLE", "BAD_VALUE");

        e.edge("NO_SUCH if there is no such word; BAD_VALUE if bend is out of range; NOT_POSSIBLE if it is known (0)", d -> {
            d.due("bend(0, 10) without words", d.x.bend(0, 10), BentWords.NO_SUCH);
            d.catAnd();
            d.due("bend(1, -1) of one word", d.x.bend(1, -1), BentWords.NO_SUCH);
            d.due("bend(0, 10) of a known one", d.x.bend(0, 10), BentWords.BAD_VALUE);
            d.due("bend(0, -1) of a known one", d.x.bend(0, -1), BentWords.BAD_VALUE);
        }).brokenBy("public int bend", "!now.hasWord(word)", "!now.hasWord(word) && isWithin(bend, 0, MOST_BEND)")
            .brokenBy("public int bend", "!isWithin(bend, 0, MOST_BEND)",
                "now.words[word].kind != KNOWN && !isWithin(bend, 0, MOST_BEND)");
    }

    private static void drop(Edges e) {
        String behind = "those behind it get numbers that are 1 less";
        e.edge(behind, d -> {
            for (int dropped = 0; dropped < 12; dropped++) {
                d.x = new BentWords();
                for (int i = 0; i < 12; i++) {
                    d.due("a word", i % 2 == 0 ? d.know("k" + (char) ('a' + i), i % 10) : d.x.add(i % 10), i);
                }
                d.x.drop(dropped);
                d.dueCount(6, 11);
                for (int i = 0; i < 11; i++) {
                    int was = i < dropped ? i : i + 1;
                    d.dueWord(i, was % 2, was % 10, 0, 0, 0, 0, 0, 0, was % 2 == 0 ? 2 : BentWords.NONE, was % 2 == 0 ? 'k' : BentWords.NONE,
                        was % 2 == 0 ? 'a' + was : BentWords.NONE);
                }
                d.due("word(11, 0)", d.x.word(11, 0), BentWords.NO_SUCH);
            }
        })
            .brokenBy("void remove", "int i = word + 1", "int i = Math.max(word, 1)")
            .brokenBy("void remove", "i < wordCount", "i < wordCount - 1")
            .brokenBy("void remove", "wordCount--;", "");

        e.edge(behind, d -> {
            for (int dropped = 1; dropped < 5; dropped++) {
                d.x = new BentWords();
                d.catAnd(9, 9, 9, 9);
                for (int word = 4; word > 0; word--) {
                    d.right(word, word, "" + (char) ('a' + word), 10 + word);
                    d.right(word, word, "z", 10 + word);
                }
                d.x.drop(dropped);
                for (int word = 1; word < 4; word++) {
                    int was = word < dropped ? word : word + 1;
                    d.dueWord(word, 1, 9, 2, 2, 55, 5, 10 + was, 0);
                    d.dueVote(word, 0, 1, 50, 1, 1, 'a' + was);
                }
                d.due("add(0)", d.x.add(0), 4);
                d.dueWord(4, 1, 0, 0, 0, 0, 0, 0, 0);
                d.due("vote(4, 0, 0)", d.x.vote(4, 0, 0), BentWords.NO_SUCH);
                d.dueWord(3, 1, 9, 2, 2);
            }
        })
            .brokenBy("void remove", "ballot.forget(word);", "")
            .brokenBy("void remove", "ballot.renumberBehind(word);", "")
            .brokenBy("void renumberBehind", "words[i] > word", "words[i] > word + 1")
            .brokenBy("void remove", "words[wordCount] = dropped;", "");

        e.edge("Returns its kind", d -> {
            d.oneOfEachKind();
            for (int kind = 0; kind < 4; kind++) {
                d.due("drop(0) of kind " + kind, d.x.drop(0), kind);
            }
            d.dueCount(6, 0);
        })
            .brokenBy("public int drop", "return kind;", "return Math.min(SOLVED, kind);")
            .brokenBy("public int drop", "return kind;", "return now.wordCount;");

        e.edge("NO_SUCH if there is no such word", d -> {
            d.due("drop(0) without words", d.x.drop(0), BentWords.NO_SUCH);
            d.catAnd(0);
            int[] words = {-1, 2, 11, 12, Integer.MIN_VALUE, Integer.MAX_VALUE};
            for (int word : words) {
                d.due("drop(" + word + ")", d.x.drop(word), BentWords.NO_SUCH);
            }
            d.due("drop(1)", d.x.drop(1), 1);
            d.due("drop(1) once more", d.x.drop(1), BentWords.NO_SUCH);
            d.due("drop(0)", d.x.drop(0), 0);
            d.due("drop(0) once more", d.x.drop(0), BentWords.NO_SUCH);
        })
            .brokenBy("public int drop", "!now.hasWord(word)", "word >= now.wordCount")
            .brokenBy("public int drop", "!now.hasWord(word)", "word < 0 || word > now.wordCount")
            .brokenBy("public int drop", "NO_SUCH", "NOT_POSSIBLE");
    }

    private static void trust(Edges e) {
        e.edge("trust: 0 to 100", d -> {
            d.due("trust(0, 0)", d.x.trust(0, 0), 50);
            d.dueSolver(0, 0);
            d.due("trust(0, 100)", d.x.trust(0, 100), 0);
            d.dueSolver(0, 100);
            d.due("trust(5, 100)", d.x.trust(5, 100), 50);
            d.due("trust(5, 0)", d.x.trust(5, 0), 100);
            d.dueSolver(5, 0);
        })
            .brokenBy("isWithin(trust, 0, MOST_TRUST)", "0", "1")
            .brokenBy("isWithin(trust, 0, MOST_TRUST)", "MOST_TRUST", "MOST_TRUST - 1");

        e.edge("NO_SUCH if there is no such solver", d -> {
            int[] solvers = {-1, 6, Integer.MIN_VALUE, Integer.MAX_VALUE};
            for (int solver : solvers) {
                d.due("trust(" + solver + ", 50)", d.x.trust(solver, 50), BentWords.NO_SUCH);
            }
            d.dueCount(15, 300);
        })
            .brokenBy("public int trust", "!isSolver(solver)", "solver < 0")
            .brokenBy("public int trust", "!isSolver(solver)", "solver >= SOLVERS")
            .brokenBy("public int trust", "NO_SUCH", "BAD_VALUE")
            .brokenBy("isWithin(solver, 0, SOLVERS - 1)", "SOLVERS - 1", "SOLVERS");

        e.edge("BAD_VALUE if trust is out of range", d -> {
            int[] trusts = {-1, 101, Integer.MIN_VALUE, Integer.MAX_VALUE};
            for (int trust : trusts) {
                d.due("trust(3, " + trust + ")", d.x.trust(3, trust), BentWords.BAD_VALUE);
            }
            d.dueSolver(3, 50);
        })
            .brokenBy("isWithin(trust, 0, MOST_TRUST)", "0", "-1")
            .brokenBy("isWithin(trust, 0, MOST_TRUST)", "MOST_TRUST", "MOST_TRUST + 1")
            .brokenBy("public int trust", "!isWithin(trust, 0, MOST_TRUST)", "trust < 0")
            .brokenBy("public int trust", "BAD_VALUE", "NO_SUCH");

        e.edge("NO_SUCH if there is no such solver; BAD_VALUE if trust is out of range", d -> {
            d.due("trust(6, 101)", d.x.trust(6, 101), BentWords.NO_SUCH);
            d.due("trust(-1, -1)", d.x.trust(-1, -1), BentWords.NO_SUCH);
        }).brokenBy("public int trust", "!isSolver(solver)", "isWithin(trust, 0, MOST_TRUST) && !isSolver(solver)");
    }
}
