import java.util.function.Consumer;

/** The texts of the section 'Terms', and promises 18 to 20. */
final class EdgesOfTexts {
    private static final String SIXTY = "123456781234567812345678123456781234567812345678123456781234";

    private EdgesOfTexts() { }

    static void addTo(Edges e) {
        e.below("Texts");
        pad(e);
        partsOfAnswers(e);
        faults(e);
        constants(e);
        nothingChanges(e);
        e.below("Promise 18: put");
        put(e);
        putRefused(e);
        e.below("Promise 19: wipe");
        wipe(e);
        e.below("Promise 20: fault");
        fault(e);
    }

    private static void pad(Edges e) {
        e.edge("The pad is a text of at most 60 characters", d -> {
            d.pad(SIXTY);
            d.dueCount(16, 60);
            d.due("put of a 61st", d.x.put('x'), BentWords.TOO_MANY);
            d.dueCount(16, 60);
            d.due("fault()", d.x.fault(), 1);
            d.pad(SIXTY.substring(1));
            d.due("put of a 60th", d.x.put('x'), 60);
            d.due("put of a 61st", d.x.put('x'), BentWords.TOO_MANY);
        })
            .brokenBy("MOST_CHARACTERS = 60", "60", "59")
            .brokenBy("MOST_CHARACTERS = 60", "60", "61");
    }

    /** Which of these characters can stand behind a text, so that the fault is behind them. */
    private static void dueBehind(Due d, String text, String good, String bad) {
        for (int i = 0; i < good.length(); i++) {
            int got = d.fault(text + good.charAt(i));
            d.due(text + good.charAt(i) + " has no fault ahead of its end", got == BentWords.NONE || got == text.length() + 1 ? 1 : 0, 1);
        }
        for (int i = 0; i < bad.length(); i++) {
            d.due("fault of " + text + bad.charAt(i), d.fault(text + bad.charAt(i)), text.length());
        }
    }

    private static void partsOfAnswers(Edges e) {
        e.edge("An answer as a text is: solver \":\" word \"=\" letters \"+\" word \"=\" letters \"@\" seconds", d -> {
            String[] parts = {"3", ":", "4", "=", "ab", "+", "5", "=", "cd", "@", "8"};
            String text = "";
            for (int i = 0; i < parts.length; i++) {
                d.due("fault of " + text, d.fault(text), text.length());
                d.due("fault of " + text + " and an #", d.fault(text + "#"), text.length());
                if (i % 2 == 1) {
                    dueBehind(d, text, parts[i], ":=+@".replace(parts[i], "") + "!-/;,.<>?A");
                }
                text += parts[i];
            }
            d.due("fault of " + text, d.fault(text), BentWords.NONE);
            d.due("fault of " + text + " and a :", d.fault(text + ":"), text.length());
            int[] signs = {1, 3, 6, 8, 11};
            for (int sign : signs) {
                d.due("fault without the sign at " + sign, d.fault(text.substring(0, sign) + text.substring(sign + 1)), sign);
            }
        })
            .brokenBy("readSign(':')", "(readSign(':') || true)")
            .brokenBy("readSign('+')", "(readSign('+') || readSign('-'))")
            .brokenBy("readSign('@')", "(readSign('@') || readSign('='))")
            .brokenBy("!readSign('=')", "!readSign('=') && !readSign(':')");

        e.edge("a solver is a digit 0 to 5", d -> {
            dueBehind(d, "", "012345", "6789/:;-+a@!~");
            d.due("fault of 00", d.fault("00"), 1);
            d.due("fault of 10", d.fault("10"), 1);
        })
            .brokenBy("solver = readDigit(0, SOLVERS - 1)", "SOLVERS - 1", "SOLVERS")
            .brokenBy("solver = readDigit(0, SOLVERS - 1)", "SOLVERS - 1", "SOLVERS - 2")
            .brokenBy("solver = readDigit(0, SOLVERS - 1)", "readDigit(0", "readDigit(-1")
            .brokenBy("solver = readDigit(0, SOLVERS - 1)", "readDigit(0", "readDigit(1");

        e.edge("a word a number from 0 to 11 without leading zeros", d -> {
            String[] ahead = {"0:", "0:1=ab+"};
            for (String text : ahead) {
                dueBehind(d, text, "0123456789", "/:;-+=a");
                for (int word = 0; word <= 11; word++) {
                    dueBehind(d, text + word, "=", word == 1 ? "23456789/:" : "0123456789/:");
                }
                dueBehind(d, text + 1, "01=", "23456789");
                d.due("fault of 00", d.fault(text + "00="), text.length() + 1);
                d.due("fault of 01", d.fault(text + "01="), text.length() + 1);
                d.due("fault of 12", d.fault(text + "12="), text.length() + 1);
                d.due("fault of 20", d.fault(text + "20="), text.length() + 1);
                d.due("fault of 100", d.fault(text + "100="), text.length() + 2);
                d.due("fault of 110", d.fault(text + "110="), text.length() + 2);
            }
            d.x.set(BentWords.AGREE, 400);
            d.catAnd(new int[10]);
            d.know("dog", 0);
            for (int word = 1; word < 11; word++) {
                d.right(0, word, "a", 9);
                d.due("votes of word " + word, d.x.word(word, 2), 1);
            }
            d.answer("0:11=dog+10=a@9");
            d.due("votes of word 10", d.x.word(10, 2), 2);
        })
            .brokenBy("int second = readDigit(0, 1);", "readDigit(0, 1)", "readDigit(0, 2)")
            .brokenBy("int second = readDigit(0, 1);", "readDigit(0, 1)", "readDigit(0, 0)")
            .brokenBy("int second = readDigit(0, 1);", "readDigit(0, 1)", "readDigit(-1, 1)")
            .brokenBy("int second = readDigit(0, 1);", "readDigit(0, 1)", "readDigit(1, 1)")
            .brokenBy("if (first != 1) {", "if (first > 1 || first < 0) {")
            .brokenBy("int first = readDigit(0, 9);", "9", "8")
            .brokenBy("int first = readDigit(0, 9);", "0", "1")
            .brokenBy("second < 0 ? 1 : 10 + second", "10 + second", "10");

        e.edge("letters are one to six letters a to z", d -> {
            String[] ahead = {"0:1=", "0:1=ab+0="};
            String[] ends = {"+", "@"};
            for (int i = 0; i < 2; i++) {
                dueBehind(d, ahead[i], "abmyz", "`{AZ0-" + ends[i]);
                dueBehind(d, ahead[i] + "a", "abmyz" + ends[i], "`{AZ0-" + ends[1 - i]);
                dueBehind(d, ahead[i] + "abcde", "az" + ends[i], "`{AZ0-" + ends[1 - i]);
                dueBehind(d, ahead[i] + "abcdef", ends[i], "az`{AZ0-" + ends[1 - i]);
            }
        })
            .brokenBy("MOST_LETTERS = 6", "6", "7")
            .brokenBy("MOST_LETTERS = 6", "6", "5")
            .brokenBy("return part.letters != 0;", "return true;")
            .brokenBy("letter < 'a'", "letter < '`'")
            .brokenBy("letter > 'z'", "letter > '{'")
            .brokenBy("letter < 'a'", "letter <= 'a'")
            .brokenBy("letter > 'z'", "letter >= 'z'");

        e.edge("seconds a number from 1 to 60 without leading zeros", d -> {
            String ahead = "0:0=cat+1=b@";
            d.x.set(BentWords.AGREE, 400);
            d.catAnd(9);
            for (int seconds = 1; seconds <= 60; seconds++) {
                d.due("fault of @" + seconds, d.fault(ahead + seconds), BentWords.NONE);
                d.due("answer of @" + seconds, d.x.answer(), 1);
                d.due("word(1, 6) of @" + seconds, d.x.word(1, 6), seconds);
                d.x.bend(1, 9);
            }
            dueBehind(d, ahead, "123456789", "0/:+-a@");
            for (int first = 1; first <= 5; first++) {
                dueBehind(d, ahead + first, "0123456789", "/:a");
                dueBehind(d, ahead + first + "0", "", "0123456789");
            }
            dueBehind(d, ahead + "6", "0", "123456789");
            for (int first = 7; first <= 9; first++) {
                dueBehind(d, ahead + first, "", "0123456789");
            }
            dueBehind(d, ahead + "60", "", "0123456789");
        })
            .brokenBy("seconds = readDigit(1, 9);", "1", "0")
            .brokenBy("seconds = readDigit(1, 9);", "9", "8")
            .brokenBy("seconds <= 6", "seconds <= 5")
            .brokenBy("seconds <= 6", "seconds <= 7")
            .brokenBy("seconds == 6 ? 0 : 9", "seconds == 6 ? 1 : 9")
            .brokenBy("seconds == 6 ? 0 : 9", "seconds == 6 ? 0 : 8")
            .brokenBy("seconds >= 1 &&", "seconds >= 2 &&")
            .brokenBy("seconds = 10 * seconds + second;", "second;", "0;");
    }

    private static void faults(Edges e) {
        e.edge("The fault is the index of the first character that cannot stand at its place when the text is read"
            + " from left to right", d -> {
            String whole = "2:10=abc+11=defghi@37";
            for (int at = 0; at < whole.length(); at++) {
                d.due("fault at " + at, d.fault(whole.substring(0, at) + "#" + whole.substring(at + 1)), at);
                d.due("two faults from " + at, d.fault(whole.substring(0, at) + "#" + whole.substring(at + 1) + "#"), at);
            }
            d.due("fault behind the end", d.fault(whole + "#"), whole.length());
            d.due("fault of a second answer behind the first", d.fault(whole + whole), whole.length());
            d.due("fault at the first of 60", d.fault("a" + SIXTY.substring(1)), 0);
        })
            .brokenBy("return isAnswer ? NONE : at;", ": at", ": at + 1")
            .brokenBy("readSeconds() && at == pad.length", "at == pad.length", "pad.length < 60")
            .brokenBy("return isAnswer ? NONE : at;", ": at", ": Math.max(1, at)")
            .brokenBy("readWholeAsAnswer() {\n            at = 0;", "at = 0;", "");

        e.edge("(words that are not there, or of another kind, are no fault)", d -> {
            d.due("without words", d.fault("0:0=a+11=b@9"), BentWords.NONE);
            d.oneOfEachKind();
            for (int first = 0; first < 12; first++) {
                for (int second = 0; second < 12; second++) {
                    String text = "5:" + first + "=abc+" + second + "=abcdef@60";
                    d.due("fault of " + text, d.fault(text), BentWords.NONE);
                }
            }
        })
            .brokenBy("public int fault()", "return reading.readWholeAsAnswer();",
                "int f = reading.readWholeAsAnswer(); return f == NONE && !now.hasWord(reading.other.word) ? 5 : f;")
            .brokenBy("public int fault()", "return reading.readWholeAsAnswer();",
                "int f = reading.readWholeAsAnswer(); return f == NONE && now.hasWord(reading.told.word) && !now.words[reading.told.word].isTold() ? 2 : f;");

        e.edge("if there is none and the text ends too early (also if it is empty), it is the length of the text", d -> {
            d.due("fault of the empty pad", d.x.fault(), 0);
            String whole = "2:10=abcdef+11=g@6";
            for (int end = 0; end < whole.length(); end++) {
                d.due("fault of the first " + end, d.fault(whole.substring(0, end)), end);
            }
            d.due("fault of the whole", d.fault(whole), BentWords.NONE);
            for (int end = whole.length() - 1; end >= 0; end--) {
                d.due("fault of the first " + end + ", behind a longer one", d.fault(whole.substring(0, end)), end);
            }
        })
            .brokenBy("private boolean readSign", "at >= pad.length", "at >= MOST_CHARACTERS")
            .brokenBy("private int readDigit", "at >= pad.length", "at >= MOST_CHARACTERS")
            .brokenBy("i < MOST_LETTERS && at < pad.length", "at < pad.length", "at < MOST_CHARACTERS")
            .brokenBy("return isAnswer ? NONE : at;", ": at", ": pad.length == 0 ? NONE : at")
            .brokenBy("return isAnswer ? NONE : at;", ": at", ": Math.min(at, pad.length - 1)");
    }

    private static void constants(Edges e) {
        e.edge("NO_SUCH = -1, BAD_VALUE = -2, BAD_TEXT = -3, TOO_MANY = -4, NOT_POSSIBLE = -5, NONE = -6: Error"
            + " codes, and NONE: there is none", d -> {
            d.due("lacking(0)", d.x.lacking(0), -1);
            d.due("count(18)", d.x.count(18), -2);
            d.due("know(0)", d.x.know(0), -3);
            d.due("restore(0)", d.x.restore(0), -5);
            d.due("nearest()", d.x.nearest(), -6);
            d.pad(SIXTY);
            d.due("put of a 61st", d.x.put('a'), -4);
        })
            .brokenBy("NO_SUCH = -1", "-1", "-6")
            .brokenBy("BAD_VALUE = -2", "-2", "-3")
            .brokenBy("BAD_TEXT = -3", "-3", "-2")
            .brokenBy("TOO_MANY = -4", "-4", "-5")
            .brokenBy("NOT_POSSIBLE = -5", "-5", "-4")
            .brokenBy("NONE = -6", "-6", "-1");

        e.edge("AGREE = 0, LEAD = 1, EARLY = 2, FAST = 3, UP = 4, DOWN = 5: Settings", d -> {
            d.catAnd(0, 0, 0, 1);
            d.x.set(0, 50);
            d.due("lacking(4) with an AGREE of 50, bent by 1", d.x.lacking(4), 60);
            d.x.set(0, 40);
            d.x.set(1, 60);
            d.due("lacking(1) with a LEAD of 60", d.x.lacking(1), 60);
            d.x.set(4, 7);
            d.right(0, 1, "a", 20);
            d.dueSolver(0, 57);
            d.x.set(5, 3);
            d.wrong(0, 1, "a", 20);
            d.dueSolver(0, 54);
            d.x.set(2, 1);
            d.x.set(3, 20);
            d.due("two votes with an EARLY of 1, in 20 seconds with a FAST of 20", d.right(0, 1, "a", 20), 2);
            d.right(1, 2, "a", 20);
            d.x.set(3, 21);
            d.due("in 20 seconds with a FAST of 21", d.right(1, 2, "a", 20), 3);
            d.x.set(3, 20);
            d.right(2, 3, "a", 20);
            d.x.set(2, 2);
            d.due("two votes with an EARLY of 2", d.right(2, 3, "a", 20), 3);
        })
            .brokenBy("public static final int AGREE = 0", "AGREE = 0, LEAD = 1", "AGREE = 1, LEAD = 0")
            .brokenBy("LEAD = 1, EARLY = 2", "LEAD = 1, EARLY = 2", "LEAD = 2, EARLY = 1")
            .brokenBy("EARLY = 2, FAST = 3", "EARLY = 2, FAST = 3", "EARLY = 3, FAST = 2")
            .brokenBy("FAST = 3, UP = 4", "FAST = 3, UP = 4", "FAST = 4, UP = 3")
            .brokenBy("UP = 4, DOWN = 5", "UP = 4, DOWN = 5", "UP = 5, DOWN = 4");
    }

    /** Words of each kind, votes that lack nothing, slot 0 saved, an answer in the pad. */
    private static void manyThings(Due d) {
        d.oneOfEachKind();
        d.right(1, 1, "a", 9);
        d.right(2, 1, "b", 9);
        d.answer("3:2=x+1=a@9");
        d.x.save(0);
        d.x.set(BentWords.AGREE, 10);
        d.x.bend(3, 0);
        d.pad("0:0=cat+1=a@9");
    }

    /** On a second object the same is done without the looks: then both have to answer alike. */
    private static void dueNoChange(Due d, Consumer<Due> looks) {
        Due twin = new Due(true);
        manyThings(d);
        manyThings(twin);
        for (int i = 0; i < 3; i++) {
            looks.accept(d);
        }
        for (int i = 0; i < 8; i++) {
            d.due("everything is as it was, behind undo " + i, d.everything().compareTo(twin.everything()), 0);
            d.due("undo()", d.x.undo(), twin.x.undo());
        }
        d.due("restore(0)", d.x.restore(0), twin.x.restore(0));
        d.due("restore(1)", d.x.restore(1), twin.x.restore(1));
        d.due("answer()", d.x.answer(), twin.x.answer());
        d.due("everything is as it was, at the end", d.everything().compareTo(twin.everything()), 0);
    }

    private static void nothingChanges(Edges e) {
        e.edge("what there is; nothing changes", d -> dueNoChange(d, x -> {
            for (int what = -1; what < 20; what++) {
                x.x.count(what);
                for (int i = -1; i < 13; i++) {
                    x.x.word(i, what);
                    x.x.solver(i, what);
                    x.x.vote(i, 0, what);
                    x.x.vote(1, i, what);
                }
            }
        }))
            .brokenBy("public int count(", "case 15: return", "case 15: now.solvers[0].trust++; return")
            .brokenBy("public int word(", "case 7: return", "case 7: asked.missed++; return")
            .brokenBy("public int solver(", "case 4: return", "case 4: asked.answers++; return")
            .brokenBy("public int vote(", "case 1: return", "case 1: now.ballot.weights[place]++; return");

        e.edge("what if; nothing changes", d -> dueNoChange(d, x -> {
            for (int word = -1; word < 5; word++) {
                x.x.lacking(word);
                for (int solver = -1; solver < 7; solver++) {
                    x.x.answersFor(solver, word);
                    x.x.ifVoted(solver, word, 9);
                    x.x.ifVoted(solver, word, 1);
                    x.x.ifVoted(solver, word, 60);
                }
            }
            x.x.mostMissed();
            x.x.nearest();
        }))
            .brokenBy("public int answersFor", "return answers;", "now.solvers[solver].trust = trust; return answers;")
            .brokenBy("public int ifVoted", "return UNKNOWN;", "asked.votes++; return UNKNOWN;")
            .brokenBy("public int mostMissed", "return found;", "remember(); return found;")
            .brokenBy("public int nearest", "return found;", "pad.length = 0; return found;")
            .brokenBy("public int lacking(", "return NO_SUCH;", "saved[1] = true; return NO_SUCH;");
    }

    private static void put(Edges e) {
        e.edge("its lowest 8 bits are the last character, the next 8 bits the one before, and so on", d -> {
            d.due("put(0x616263)", d.x.put(0x616263L), 3);
            d.due("put(0x64)", d.x.put(0x64L), 4);
            d.due("put(0x6566)", d.x.put(0x6566L), 6);
            d.x.know(0);
            d.dueLetters(0, "abcdef");
            d.due("put of eight", d.x.put(0x303a303d61626364L), 8);
            d.due("put of seven", d.x.put(0x65662b313d6240L), 15);
            d.due("put of 9", d.x.put(0x39L), 16);
            d.x.add(9);
            d.due("answer()", d.x.answer(), 1);
            d.dueSolver(0, 55, 1, 1, 0, 9);
        })
            .brokenBy("int i = many - 1; i >= 0; i--", "int i = many - 1; i >= 0; i--", "int i = 0; i < many; i++")
            .brokenBy("int i = many - 1; i >= 0; i--", "i >= 0", "i > 0");

        e.edge("8 bits that are 0 mean that there are no more characters, and everything above them has to be 0, too", d -> {
            for (int many = 1; many < 8; many++) {
                long characters = Due.packed("abcdefg".substring(0, many));
                d.x.wipe();
                d.due("put of " + many, d.x.put(characters), many);
                for (int bit = 8 * many + 8; bit < 64; bit++) {
                    d.due("put of " + many + " with bit " + bit, d.x.put(characters | 1L << bit), BentWords.BAD_VALUE);
                }
                if (many < 7) {
                    d.due("put of " + many + " below a character", d.x.put(characters | 0x61L << 8 * many + 8), BentWords.BAD_VALUE);
                }
                d.dueCount(16, many);
            }
        })
            .brokenBy("many == MOST_AT_ONCE || characters >>> (8 * many) == 0", "characters >>> (8 * many) == 0",
                "codeAt(characters, many) == 0")
            .brokenBy("many == MOST_AT_ONCE || characters >>> (8 * many) == 0", "characters >>> (8 * many) == 0",
                "(int) (characters >>> (8 * many)) == 0")
            .brokenBy("many == MOST_AT_ONCE || characters >>> (8 * many) == 0", "characters >>> (8 * many) == 0",
                "characters << 1 >>> (8 * many + 1) == 0");

        e.edge("characters: 1 to 8 characters", d -> {
            for (int many = 1; many <= 8; many++) {
                d.x.wipe();
                d.due("put of " + many, d.x.put(Due.packed("abcdefgh".substring(0, many))), many);
                d.dueCount(16, many);
            }
            d.due("put of none", d.x.put(0), BentWords.BAD_VALUE);
        })
            .brokenBy("MOST_AT_ONCE = 8", "8", "7")
            .brokenBy("many == MOST_AT_ONCE || characters", "many == MOST_AT_ONCE ||", "")
            .brokenBy("many < MOST_AT_ONCE && isWithin", "many < MOST_AT_ONCE &&", "many < 1 &&");

        e.edge("Returns the length of the pad then", d -> {
            d.due("put of one", d.x.put('a'), 1);
            d.due("put of eight", d.x.put(Due.packed("abcdefgh")), 9);
            d.pad(SIXTY.substring(8));
            d.due("put of the last eight", d.x.put(Due.packed("abcdefgh")), 60);
        })
            .brokenBy("public int put", "return pad.length;", "return many;")
            .brokenBy("public int put", "return pad.length;", "return Math.min(59, pad.length);");
    }

    private static void putRefused(Edges e) {
        e.edge("BAD_VALUE if there is no character", d -> {
            d.due("put(0)", d.x.put(0), BentWords.BAD_VALUE);
            d.dueCount(16, 0);
            d.pad("abc");
            d.due("put(0)", d.x.put(0), BentWords.BAD_VALUE);
            d.dueCount(16, 3);
        })
            .brokenBy("public int put", "many == 0", "many == 0 && characters != 0")
            .brokenBy("public int put", "BAD_VALUE", "BAD_TEXT");

        e.edge("a code is not 33 to 126", d -> {
            for (int place = 0; place < 8; place++) {
                long others = 0x6161616161616161L & ~(255L << 8 * place);
                for (int code = 1; code < 256; code++) {
                    d.x.wipe();
                    boolean isGood = code >= 33 && code <= 126;
                    String call = "put of code " + code + " at place " + place;
                    d.due(call, d.x.put(others | (long) code << 8 * place), isGood ? 8 : BentWords.BAD_VALUE);
                }
            }
            int[] alone = {1, 31, 32, 127, 128, 255, -1};
            for (int code : alone) {
                d.x.wipe();
                d.due("put(" + code + ")", d.x.put(code), BentWords.BAD_VALUE);
            }
            d.due("put(33)", d.x.put(33), 1);
            d.due("put(126)", d.x.put(126), 2);
            d.due("put(MIN)", d.x.put(Long.MIN_VALUE), BentWords.BAD_VALUE);
            d.due("put(MAX)", d.x.put(Long.MAX_VALUE), BentWords.BAD_VALUE);
        })
            .brokenBy("FIRST_CODE = 33", "33", "32")
            .brokenBy("FIRST_CODE = 33", "33", "34")
            .brokenBy("LAST_CODE = 126", "126", "127")
            .brokenBy("LAST_CODE = 126", "126", "125");

        e.edge("or a bit above 8 bits that are 0 is not 0", d -> {
            long[] bad = {0x6100L, 0x100L, 1L << 63, 0x610061L, 0x6100000000000061L, 0x8000000000000061L, 0x0100000000000061L, 0x0061006161616161L,
                0x6100616161616161L, 0x0100616161616161L, 0x6161616161616100L};
            for (long characters : bad) {
                d.due("put(0x" + Long.toHexString(characters) + ")", d.x.put(characters), BentWords.BAD_VALUE);
            }
            d.due("put(0x0061616161616161)", d.x.put(0x0061616161616161L), 7);
            d.due("put(0x61)", d.x.put(0x61L), 8);
        })
            .brokenBy("return nothingAbove ? many : 0;", "nothingAbove ? many : 0", "many")
            .brokenBy("return nothingAbove ? many : 0;", "nothingAbove", "(characters >>> 56 == 0 || nothingAbove)");

        e.edge("TOO_MANY if the pad would be longer than 60", d -> {
            for (int room = 0; room <= 8; room++) {
                for (int many = 1; many <= 8; many++) {
                    d.pad(SIXTY.substring(0, 60 - room));
                    boolean fits = many <= room;
                    String call = "put of " + many + " with room for " + room;
                    d.due(call, d.x.put(Due.packed("abcdefgh".substring(0, many))), fits ? 60 - room + many : BentWords.TOO_MANY);
                    d.dueCount(16, fits ? 60 - room + many : 60 - room);
                }
            }
        })
            .brokenBy("return length + many <= MOST_CHARACTERS;", "<=", "<")
            .brokenBy("return length + many <= MOST_CHARACTERS;", "MOST_CHARACTERS", "MOST_CHARACTERS + 1")
            .brokenBy("public int put", "pad.hasRoomFor(many)", "pad.hasRoomFor(1)")
            .brokenBy("public int put", "TOO_MANY", "NOT_POSSIBLE");

        e.edge("BAD_VALUE if there is no character, a code is not 33 to 126, or a bit above 8 bits that are 0 is not"
            + " 0; TOO_MANY if the pad would be longer than 60", d -> {
            d.pad(SIXTY);
            d.due("put(0) on a full pad", d.x.put(0), BentWords.BAD_VALUE);
            d.due("put(32) on a full pad", d.x.put(32), BentWords.BAD_VALUE);
            d.due("put(0x6100) on a full pad", d.x.put(0x6100), BentWords.BAD_VALUE);
            d.due("put(0x61) on a full pad", d.x.put(0x61), BentWords.TOO_MANY);
        }).brokenBy("public int put", "if (many == 0) {", "if (many == 0 && pad.hasRoomFor(1)) {");
    }

    private static void wipe(Edges e) {
        e.edge("Empties the pad, and returns the length that it had", d -> {
            d.due("wipe() of none", d.x.wipe(), 0);
            d.x.put('a');
            d.due("wipe() of one", d.x.wipe(), 1);
            d.due("wipe() once more", d.x.wipe(), 0);
            d.dueCount(16, 0);
            d.pad(SIXTY);
            d.due("wipe() of 60", d.x.wipe(), 60);
            d.due("fault()", d.x.fault(), 0);
            d.due("put of z", d.x.put('z'), 1);
            d.x.know(0);
            d.dueLetters(0, "z");
        })
            .brokenBy("public int wipe", "pad.length = 0;", "pad.length = Math.max(0, pad.length - 59);")
            .brokenBy("public int wipe", "return before;", "return pad.length;")
            .brokenBy("public int wipe", "return before;", "return before == 0 ? NONE : before;");
    }

    private static void fault(Edges e) {
        e.edge("Returns the fault of the pad, as an answer, NONE if there is none", d -> {
            d.due("fault() of the empty pad", d.x.fault(), 0);
            d.due("fault() of letters", d.fault("cat"), 0);
            d.due("fault() of the shortest answer", d.fault("0:0=a+1=b@1"), BentWords.NONE);
            d.due("fault() of the longest answer", d.fault("5:11=abcdef+10=abcdef@60"), BentWords.NONE);
            d.due("fault() of the shortest answer without its end", d.fault("0:0=a+1=b@"), 10);
            d.due("fault() of the longest answer and one more", d.fault("5:11=abcdef+10=abcdef@600"), 24);
            d.due("fault() of 60", d.fault(SIXTY), 1);
            d.due("fault() once more", d.x.fault(), 1);
            d.dueCount(16, 60);
        })
            .brokenBy("return isAnswer ? NONE : at;", "NONE", "pad.length")
            .brokenBy("return isAnswer ? NONE : at;", "NONE", "NO_SUCH")
            .brokenBy("readSeconds() && at == pad.length", "&& at == pad.length", "");
    }
}
