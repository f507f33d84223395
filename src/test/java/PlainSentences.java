import java.util.function.Consumer;
import java.util.List;

/** The sentences of the document that name no boundary, so that none is left without a test. */
final class PlainSentences {
    private PlainSentences() { }

    static void addTo(Edges e) {
        e.below("What it is");
        whatItIs(e);
        laterCalls(e);
        e.below("Settings");
        settings(e);
        e.below("Words");
        votes(e);
        e.below("Texts");
        interfaceSays(e);
        changes(e);
        looks(e);
        e.below("Promise 18: put");
        put(e);
        e.below("Promise 21: undo");
        undo(e);
    }

    private static void whatItIs(Edges e) {
        e.edge("Captcha of bent words retired as soon as solvers agree too soon: words that are known and words that are not,"
            + " each bent more or less, solvers with trust, answers to a pair of a known and an unknown word, trust that grows"
            + " by right answers and falls by wrong ones, votes by trust for what an unknown word could be, words on which"
            + " solvers agree, words on which they agree too soon and which are retired, words that are solved and serve as"
            + " known ones then, words that are bent anew, what leads for a word and by how much, what is lacking, how many"
            + " answers more it would take, the known word that is missed most, solvers by trust, answers that are read from"
            + " texts, undo, and saved states", d -> {
            d.catAnd(0, 3);
            d.due("a right answer", d.right(0, 1, "dog", 8), 1);
            d.due("a wrong one", d.wrong(1, 1, "dog", 8), 1);
            d.dueSolver(0, 55, 1, 1, 0, 8);
            d.dueSolver(1, 40, 1, 0, 5, 8);
            d.dueWord(1, 1, 0, 1, 1, 50, 50, 8);
            d.due("lacking(1)", d.x.lacking(1), 50);
            d.due("answersFor(1, 1)", d.x.answersFor(1, 1), 2);
            d.due("ifVoted(2, 1, 8)", d.x.ifVoted(2, 1, 8), 3);
            d.due("save(1)", d.x.save(1), 3);
            d.due("agreed on too soon", d.right(2, 1, "dog", 8), 3);
            d.due("undo()", d.x.undo(), 5);
            d.due("a vote for another one", d.right(1, 1, "cow", 8), 1);
            d.due("agreed on", d.right(2, 1, "dog", 8), 2);
            d.due("the solved one serves as a known one", d.answer("3:1=dog+2=owl@9"), 1);
            d.due("and is missed", d.answer("3:1=doe+2=owl@9"), 1);
            d.due("and is missed most", d.answer("3:1=doe+2=owl@9"), 1);
            d.due("mostMissed()", d.x.mostMissed(), 1);
            d.due("nearest()", d.x.nearest(), 2);
            d.due("bend(1, 2)", d.x.bend(1, 2), 2);
            d.due("lacking(1), bent anew", d.x.lacking(1), 120);
            d.due("restore(1)", d.x.restore(1), 3);
            d.dueWord(1, 1, 0, 1, 1, 50, 50, 8);
        })
            .brokenBy("boolean isTold", "|| kind == SOLVED", "")
            .brokenBy("takeVote(said.other, weight, said.seconds);", "weight,", "FIRST_TRUST - 1,")
            .brokenBy("public int mostMissed", "now.words[i].missed > most", "now.words[i].missed > most && i == 0");
    }

    private static void laterCalls(Edges e) {
        e.edge("what later calls answer is free", d -> {
            d.catAnd(9, 9);
            d.x.set(BentWords.AGREE, 400);
            d.x.set(BentWords.LEAD, 200);
            for (int i = 0; i < 400; i++) {
                int kind = d.right(i % 6, 1 + i % 2, "" + (char) ('a' + i / 26) + (char) ('a' + i % 26), 9);
                d.due("an answer that is a kind, at " + i, kind >= 0 && kind <= 3 ? kind : -1, kind);
                d.x.vote(1, i, 2);
                d.x.answersFor(0, 1);
            }
        }).brokenBy("boolean cast", "size >= MOST_ANSWERS", "false");
    }

    private static void settings(Edges e) {
        e.edge("(In parentheses: range; first value.)", d -> {
            int[][] rows = {{10, 400, 100}, {0, 200, 30}, {0, 9, 2}, {0, 60, 5}, {0, 20, 5}, {0, 50, 10}};
            for (int i = 0; i < rows.length; i++) {
                d.due("the first value of " + i, d.x.set(i, rows[i][0]), rows[i][2]);
                d.due("the lowest value of " + i, d.x.set(i, rows[i][1]), rows[i][0]);
                d.dueCount(i, rows[i][1]);
            }
        }).brokenBy("settings = FIRST.clone()", "FIRST", "LOWEST");

        e.edge("LEAD (0 to 200; 30): weights", d -> {
            d.x.set(BentWords.AGREE, 60);
            d.catAnd(0, 0);
            d.right(0, 1, "a", 9);
            d.due("lacking of AGREE, by weight", d.x.lacking(1), 10);
            d.right(1, 1, "b", 9);
            d.due("lacking of LEAD, by weight", d.x.lacking(1), 30);
        }).brokenBy("int weightLacking", "- ballot.leadingWeight(word)", "- words[word].votes")
            .brokenBy("int weightLacking", "- ballot.leadOf(word)", "- words[word].votes");

        e.edge("EARLY (0 to 9; 2): votes", d -> {
            d.catAnd(0);
            d.right(0, 1, "a", 9);
            d.due("with two votes of 50", d.right(1, 1, "a", 9), 3);
            d.x.undo();
            d.right(2, 1, "b", 9);
            d.due("with three votes, two of them for it", d.right(1, 1, "a", 9), 2);
        }).brokenBy("isTooSoon = votes <=", "votes <=", "votes - 1 <=");

        e.edge("FAST (0 to 60; 5): seconds", d -> {
            d.agreeAtOnce();
            d.catAnd(0, 0);
            d.due("in 4 seconds", d.right(0, 1, "a", 4), 3);
            d.due("in 5 seconds", d.right(0, 2, "a", 5), 2);
        }).brokenBy("mean(seconds, votes) < settings[FAST]", "mean(seconds, votes)", "votes");

        e.edge("DOWN (0 to 50; 10): trust", d -> {
            d.catAnd(9);
            d.right(0, 1, "a", 9);
            d.dueSolver(0, 55);
            d.wrong(0, 1, "a", 9);
            d.dueSolver(0, 45);
            d.x.set(BentWords.UP, 1);
            d.x.set(BentWords.DOWN, 2);
            d.right(0, 1, "a", 9);
            d.dueSolver(0, 46);
            d.wrong(0, 1, "a", 9);
            d.dueSolver(0, 44);
        }).brokenBy("trust + settings[UP]", "settings[UP]", "settings[DOWN]")
            .brokenBy("solver.trust - settings[DOWN]", "settings[DOWN]", "settings[UP]");
    }

    private static void votes(Edges e) {
        e.edge("An unknown word has votes, each for what somebody answered, with a weight and seconds", d -> {
            d.catAnd(9);
            d.x.trust(2, 31);
            d.right(0, 1, "owl", 10);
            d.right(2, 1, "eel", 21);
            d.dueVote(1, 0, 1, 50, 0, 3, 'o', 'w', 'l', BentWords.NONE);
            d.dueVote(1, 1, 1, 31, 1, 3, 'e', 'e', 'l', BentWords.NONE);
            d.due("the mean of 10 and 21", d.x.word(1, 6), 15);
        }).brokenBy("letters[place] = answered;", "")
            .brokenBy("weights[place] += weight;", "")
            .brokenBy("word.seconds += seconds;", "");
    }

    /** Words 0 to 3 of the kinds 0 to 3, the unknown one with a vote; a text in the pad, nothing to undo. */
    private static void kindsAndNoHistory(Due d) {
        d.x = new BentWords();
        d.oneOfEachKind();
        d.right(1, 1, "a", 9);
        d.x.save(0);
        for (int i = 0; i < 6; i++) {
            d.x.undo();
        }
        d.x.restore(0);
        d.x.undo();
        d.x.restore(0);
        d.pad("0:0=cat+1=b@9");
    }

    private static int dueChange(Due d, String call, int got, int wanted) {
        d.due(call, got, wanted);
        d.dueCount(17, 2);
        d.due("undo() of " + call, d.x.undo(), 1);
        return got;
    }

    private static void interfaceSays(Edges e) {
        e.edge("Ahead of the calls set, know, add, answer, bend, drop, trust the interface says: ---- changes", d -> {
            kindsAndNoHistory(d);
            d.dueCount(17, 1);
            dueChange(d, "set(4, 6)", d.x.set(4, 6), 5);
            dueChange(d, "add(4)", d.x.add(4), 4);
            dueChange(d, "answer()", d.x.answer(), 1);
            dueChange(d, "bend(2, 6)", d.x.bend(2, 6), 2);
            dueChange(d, "drop(3)", d.x.drop(3), 3);
            dueChange(d, "trust(4, 6)", d.x.trust(4, 6), 50);
            dueChange(d, "know(4)", d.know("b", 4), 4);
            d.dueCount(6, 4);
        }).brokenBy("private void remember", "changes++;", "");

        e.edge("Ahead of the calls word, vote, solver, count the interface says: ---- what there is; nothing changes", d -> {
            kindsAndNoHistory(d);
            String before = d.everything();
            d.due("everything is as it was", d.everything().compareTo(before), 0);
            d.due("undo()", d.x.undo(), 0);
        }).brokenBy("case 0: return asked.trust;", "asked.trust", "asked.trust++")
            .brokenBy("case 2: return asked.votes;", "asked.votes", "asked.votes++")
            .brokenBy("case 1: return now.ballot.weights[place];", "[place]", "[place]++")
            .brokenBy("case 14: return now.solvedSoFar;", "now.solvedSoFar", "now.solvedSoFar++");

        e.edge("Ahead of the calls lacking, answersFor, ifVoted, mostMissed, nearest the interface says: ---- what if; nothing changes", d -> {
            kindsAndNoHistory(d);
            String before = d.everything();
            d.due("lacking(1)", d.x.lacking(1), 50);
            d.due("answersFor(1, 1)", d.x.answersFor(1, 1), 1);
            d.due("ifVoted(1, 1, 60)", d.x.ifVoted(1, 1, 60), 2);
            d.due("mostMissed()", d.x.mostMissed(), BentWords.NONE);
            d.due("nearest()", d.x.nearest(), 1);
            d.due("everything is as it was", d.everything().compareTo(before), 0);
            d.due("undo()", d.x.undo(), 0);
        }).brokenBy("public int answersFor", "return answers;", "now.solvers[solver].trust++; return answers;")
            .brokenBy("public int ifVoted", "asked.votes + 1", "++asked.votes")
            .brokenBy("public int nearest", "return found;", "remember(); return found;");

        e.edge("Ahead of the calls put, wipe, fault the interface says: ---- texts", d -> {
            kindsAndNoHistory(d);
            d.due("put", d.x.put(Due.packed("+")), 14);
            d.due("fault()", d.x.fault(), 13);
            d.due("wipe()", d.x.wipe(), 14);
            d.dueCount(17, 1);
        }).brokenBy("public int wipe", "pad.length = 0;", "pad.length = 0; remember();");

        e.edge("Ahead of the calls undo, save, restore the interface says: ---- undo, saving", d -> {
            kindsAndNoHistory(d);
            d.due("save(1)", d.x.save(1), 4);
            d.dueCount(17, 1);
            d.due("restore(1)", d.x.restore(1), 4);
            d.dueCount(17, 2);
            d.due("undo()", d.x.undo(), 1);
            d.dueCount(17, 1);
        }).brokenBy("public int save", "return now.wordCount;", "remember(); return now.wordCount;");
    }

    /** What a method that is a change says of itself, what it returns, and the break that each of these sees. */
    private static void change(Edges e, String heading, String changed, String returned, String head, Consumer<Due> calls,
            String... broken) {
        e.below(heading);
        e.edge("This is a change", d -> {
            kindsAndNoHistory(d);
            calls.accept(d);
            d.dueCount(17, 2);
            d.due("undo()", d.x.undo(), 1);
        }).brokenBy(head, "remember();", "");
        for (String sentence : List.of(changed, returned)) {
            if (!sentence.isEmpty()) {
                Edges.Edge edge = e.edge(sentence, d -> {
                    kindsAndNoHistory(d);
                    calls.accept(d);
                });
                int at = sentence.equals(changed) ? 0 : 2;
                edge.brokenBy(head, broken[at], broken[at + 1]);
            }
        }
    }

    private static void changes(Edges e) {
        change(e, "Promise 2: set", "Changes a setting", "Returns the previous value", "public int set", d -> {
            d.due("set(4, 6)", d.x.set(4, 6), 5);
            d.dueCount(4, 6);
        }, "now.settings[setting] = value;", "", "return previous;", "return value;");
        change(e, "Promise 3: know", "", "Returns its number", "public int know",
            d -> d.due("know(4)", d.know("b", 4), 4), "", "", "now.append(KNOWN, bend, letters)", "now.append(KNOWN, bend, letters) + 1");
        change(e, "Promise 4: add", "Adds an unknown word", "Returns its number", "public int add", d -> {
            d.due("add(4)", d.x.add(4), 4);
            d.dueWord(4, 1, 4, 0, 0, 0, 0, 0, 0, BentWords.NONE);
        }, "UNKNOWN", "RETIRED", "now.append(UNKNOWN, bend, 0)", "now.append(UNKNOWN, bend, 0) + 1");
        change(e, "Promise 5: answer", "", "", "public int answer()", d -> d.due("answer()", d.x.answer(), 1));
        change(e, "Promise 6: bend", "", "", "public int bend", d -> d.due("bend(2, 6)", d.x.bend(2, 6), 2));
        change(e, "Promise 7: drop", "Drops a word", "", "public int drop", d -> {
            d.due("drop(1)", d.x.drop(1), 1);
            d.dueCount(6, 3);
            d.dueWord(1, 2);
        }, "now.remove(word);", "", "", "");
        change(e, "Promise 8: trust", "Changes the trust of a solver", "Returns the previous one", "public int trust", d -> {
            d.due("trust(4, 6)", d.x.trust(4, 6), 50);
            d.dueSolver(4, 6);
        }, "trust = trust;", "trust = previous;", "return previous;", "return trust;");
        change(e, "Promise 23: restore", "", "", "public int restore", d -> d.due("restore(0)", d.x.restore(0), 4));
    }

    /** The sentences of a method that looks, all held by the same calls. */
    private static void look(Edges e, String heading, Consumer<Due> calls, String anchor, String old, String broken, String... sentences) {
        e.below(heading);
        for (String sentence : sentences) {
            e.edge(sentence, d -> {
                d.oneOfEachKind();
                d.right(1, 1, "a", 9);
                calls.accept(d);
            }).brokenBy(anchor, old, broken);
        }
    }

    private static void looks(Edges e) {
        look(e, "Promise 9: word", d -> {
            d.dueWord(0, 0, 0, 0);
            d.dueWord(1, 1, 9, 1);
            d.dueWord(2, 2, 0, 1);
            d.dueWord(3, 3, 0, 1);
        }, "case 0: return asked.kind;", "asked.kind", "asked.bend",
            "Returns something about a word", "0 its kind, 1 its bend", "Returns the number");
        look(e, "Promise 10: vote", d -> d.dueVote(1, 0, 1, 50, 0, 1, 'a'),
            "case 1: return now.ballot.weights[place];", "weights", "votes",
            "Returns something about an answer that was voted for", "Returns the number");
        look(e, "Promise 11: solver", d -> d.dueSolver(0, 60, 2, 2, 0, 5),
            "case 0: return asked.trust;", "asked.trust", "asked.right",
            "Returns something about a solver", "0 its trust", "Returns the number");
        look(e, "Promise 12: count", d -> {
            d.dueCount(6, 4);
            d.dueCount(12, 3);
        }, "case 12:", "now.allRight()", "now.wordCount", "Returns a number", "Returns the number");
        look(e, "Promise 13: lacking", d -> d.due("lacking(1)", d.x.lacking(1), 50),
            "int forWeight = settings[AGREE]", "settings[AGREE] +", "", "Tells what is lacking for a word to be agreed on");
        look(e, "Promise 14: answersFor", d -> {
            d.x.trust(4, 20);
            d.due("answersFor(4, 1) of 20, 25 and 30", d.x.answersFor(4, 1), 3);
        }, "public int answersFor", "now.trustBehindRight(trust)", "2 * trust", "Tells how many right answers of a solver");
        look(e, "Promise 16: mostMissed", d -> {
            d.answer("5:2=cat+1=a@9");
            d.due("mostMissed()", d.x.mostMissed(), 2);
        }, "public int mostMissed", "return found;", "return most;", "Returns the word");
        look(e, "Promise 17: nearest", d -> d.due("nearest()", d.x.nearest(), 1),
            "public int nearest", "return found;", "return least;", "Returns the word");
    }

    private static void put(Edges e) {
        e.edge("Appends characters to the pad", d -> {
            d.due("put of two", d.x.put(Due.packed("0:")), 2);
            d.due("put of three", d.x.put(Due.packed("0=c")), 5);
            d.due("put of six", d.x.put(Due.packed("at+1=b")), 11);
            d.due("put of two", d.x.put(Due.packed("@9")), 13);
            d.due("fault()", d.x.fault(), BentWords.NONE);
        }).brokenBy("public int put", "for (int i", "pad.length = 0; for (int i");

        e.edge("They are given as a number", d -> {
            d.due("put of abc", d.x.put(('a' * 256L + 'b') * 256L + 'c'), 3);
            d.due("know(0)", d.x.know(0), 0);
            d.dueLetters(0, "abc");
        }).brokenBy("public int put", "codeAt(characters, i)", "codeAt(characters, many - 1 - i)");
    }

    private static void undo(Edges e) {
        e.edge("Undoes the latest change", d -> {
            kindsAndNoHistory(d);
            d.x.trust(0, 1);
            d.x.trust(1, 2);
            d.due("undo()", d.x.undo(), 2);
            d.dueSolver(0, 1);
            d.dueSolver(1, 55);
            d.due("undo() once more", d.x.undo(), 1);
            d.dueSolver(0, 60);
        }).brokenBy("now.copyFrom(history[changes]);", "history[changes]", "history[0]");
    }
}
