/** Promises 13 to 17: what if. */
final class EdgesOfWhatIf {
    private static final int[] NO_WORDS_OF_TWO = {-1, 2, 11, 12, Integer.MIN_VALUE, Integer.MAX_VALUE};
    private static final int[] NO_SOLVERS = {-1, 6, Integer.MIN_VALUE, Integer.MAX_VALUE};

    private EdgesOfWhatIf() { }

    static void addTo(Edges e) {
        e.below("Promise 13: lacking");
        lacking(e);
        e.below("Promise 14: answersFor");
        answersFor(e);
        answersForRefused(e);
        e.below("Promise 15: ifVoted");
        ifVoted(e);
        ifVotedRefused(e);
        e.below("Promise 16: mostMissed");
        mostMissed(e);
        e.below("Promise 17: nearest");
        nearest(e);
    }

    private static void lacking(Edges e) {
        e.edge("how much more weight its leading answer needs, if no other one gets any (without votes: any answer)", d -> {
            d.catAnd(0, 9);
            d.due("lacking(1) without votes", d.x.lacking(1), 100);
            d.due("lacking(2) without votes, bent by 9", d.x.lacking(2), 190);
            d.x.set(BentWords.LEAD, 150);
            d.due("lacking(1) without votes, with a LEAD of 150", d.x.lacking(1), 150);
            d.due("lacking(2) without votes, with a LEAD of 150", d.x.lacking(2), 190);
            d.x.set(BentWords.LEAD, 30);
            d.x.set(BentWords.UP, 0);
            d.right(0, 1, "a", 9);
            d.due("lacking(1) with 50", d.x.lacking(1), 50);
            d.x.trust(1, 45);
            d.right(1, 1, "b", 9);
            d.due("lacking(1) with 50 and 45", d.x.lacking(1), 50);
            d.x.trust(1, 25);
            d.right(1, 1, "b", 9);
            d.right(1, 1, "a", 9);
            d.due("lacking(1) with 75 and 70", d.x.lacking(1), 25);
            d.x.set(BentWords.LEAD, 31);
            d.due("lacking(1) with 75 and 70, and a LEAD of 31", d.x.lacking(1), 26);
            d.x.trust(1, 26);
            d.due("answersFor(1, 1)", d.x.answersFor(1, 1), 1);
            d.x.trust(1, 25);
            d.due("answersFor(1, 1)", d.x.answersFor(1, 1), 2);
        })
            .brokenBy("Math.max(0, Math.max(forWeight, forLead))", "Math.max(0, forWeight)")
            .brokenBy("Math.max(0, Math.max(forWeight, forLead))", "Math.max(0, forLead)")
            .brokenBy("Math.max(0, Math.max(forWeight, forLead))", "Math.max(0, forWeight) + Math.max(0, forLead)")
            .brokenBy("int leadingWeight", "NOWHERE ? 0", "NOWHERE ? 1")
            .brokenBy("int leadOf", "return 0;", "return 30;");

        e.edge("Returns the weight, 0 or more", d -> {
            d.catAnd(0);
            d.right(0, 1, "a", 9);
            d.x.set(BentWords.AGREE, 51);
            d.due("lacking(1) with 50 of 51", d.x.lacking(1), 1);
            d.x.set(BentWords.AGREE, 50);
            d.due("lacking(1) with 50 of 50", d.x.lacking(1), 0);
            d.x.set(BentWords.AGREE, 10);
            d.due("lacking(1) with 50 of 10", d.x.lacking(1), 0);
            d.x.set(BentWords.LEAD, 0);
            d.due("lacking(1) with a LEAD of 0", d.x.lacking(1), 0);
        })
            .brokenBy("Math.max(0, Math.max(forWeight, forLead))", "Math.max(forWeight, forLead)")
            .brokenBy("Math.max(0, Math.max(forWeight, forLead))", "Math.max(1, Math.max(forWeight, forLead))");

        e.edge("NO_SUCH if there is no such word", d -> {
            d.due("lacking(0) without words", d.x.lacking(0), BentWords.NO_SUCH);
            d.catAnd(0);
            for (int word : NO_WORDS_OF_TWO) {
                d.due("lacking(" + word + ")", d.x.lacking(word), BentWords.NO_SUCH);
            }
            d.due("lacking(1)", d.x.lacking(1), 100);
        })
            .brokenBy("public int lacking(", "!now.hasWord(word)", "word >= now.wordCount")
            .brokenBy("public int lacking(", "!now.hasWord(word)", "word < 0 || word > now.wordCount")
            .brokenBy("public int lacking(", "NO_SUCH", "NOT_POSSIBLE");

        e.edge("NOT_POSSIBLE if it is not unknown", d -> {
            d.oneOfEachKind();
            d.due("lacking(0)", d.x.lacking(0), BentWords.NOT_POSSIBLE);
            d.due("lacking(2)", d.x.lacking(2), BentWords.NOT_POSSIBLE);
            d.due("lacking(3)", d.x.lacking(3), BentWords.NOT_POSSIBLE);
            d.due("lacking(1)", d.x.lacking(1), 100);
            d.x.bend(3, 1);
            d.due("lacking(3) behind bend", d.x.lacking(3), 20);
        })
            .brokenBy("public int lacking(", "!= UNKNOWN", "== KNOWN")
            .brokenBy("public int lacking(", "!= UNKNOWN", "== SOLVED")
            .brokenBy("public int lacking(", "!= UNKNOWN", "== RETIRED");
    }

    private static void answersFor(Edges e) {
        e.edge("all for the leading answer of a word (without votes: for one and the same), it takes until the word"
            + " is agreed on; the trust grows by them", d -> {
            d.catAnd(0, 0);
            d.due("answersFor(0, 1): 50 and 55", d.x.answersFor(0, 1), 2);
            d.x.trust(0, 47);
            d.due("answersFor(0, 1): 47 and 52 are 99", d.x.answersFor(0, 1), 3);
            d.x.trust(0, 48);
            d.due("answersFor(0, 1): 48 and 53 are 101", d.x.answersFor(0, 1), 2);
            d.x.set(BentWords.AGREE, 299);
            d.x.trust(0, 99);
            d.due("answersFor(0, 1): 99, 100 and 100", d.x.answersFor(0, 1), 3);
            d.x.set(BentWords.AGREE, 300);
            d.due("answersFor(0, 1): 99, 100, 100, and one more", d.x.answersFor(0, 1), 4);
            d.right(1, 1, "a", 9);
            d.right(2, 1, "b", 9);
            d.right(2, 1, "b", 9);
            d.x.set(BentWords.AGREE, 115);
            d.x.trust(0, 10);
            d.due("answersFor(0, 1): 10 on 105, for b", d.x.answersFor(0, 1), 1);
            d.x.set(BentWords.LEAD, 65);
            d.due("answersFor(0, 1): 10 on a lead of 55", d.x.answersFor(0, 1), 1);
            d.x.set(BentWords.LEAD, 66);
            d.due("answersFor(0, 1): 10 and 15 on a lead of 55", d.x.answersFor(0, 1), 2);
            d.dueSolver(0, 10);
        })
            .brokenBy("public int answersFor", "lacking <= 0", "lacking < 0")
            .brokenBy("public int answersFor", "lacking <= 0", "lacking <= 1")
            .brokenBy("public int answersFor", "trust = now.trustBehindRight(trust);", "")
            .brokenBy("public int answersFor", "trust = now.trustBehindRight(trust);", "trust += now.settings[UP];")
            .brokenBy("public int answersFor", "lacking -= trust;", "trust = now.trustBehindRight(trust); lacking -= trust;");

        e.edge("Returns how many, 1 to 100 (a word is agreed on behind a vote alone)", d -> {
            d.catAnd(0, 0);
            d.x.set(BentWords.UP, 0);
            d.x.set(BentWords.AGREE, 100);
            d.x.trust(0, 1);
            d.due("answersFor(0, 2): 100 of 1", d.x.answersFor(0, 2), 100);
            d.right(1, 1, "a", 9);
            d.x.set(BentWords.AGREE, 10);
            d.due("lacking(1)", d.x.lacking(1), 0);
            d.due("answersFor(0, 1) where nothing is lacking", d.x.answersFor(0, 1), 1);
            d.x.trust(0, 0);
            d.due("answersFor(0, 1) where nothing is lacking, by 0", d.x.answersFor(0, 1), 1);
            d.x.trust(0, 100);
            d.due("answersFor(0, 2) by 100", d.x.answersFor(0, 2), 1);
        })
            .brokenBy("MOST_RIGHT_ANSWERS = 100", "100", "99")
            .brokenBy("int lacking = now.weightLacking(word);", "int lacking = now.weightLacking(word);",
                "int lacking = now.weightLacking(word); if (lacking == 0) { return 0; }")
            .brokenBy("public int answersFor", "answers <= MOST_RIGHT_ANSWERS", "answers < MOST_RIGHT_ANSWERS")
            .brokenBy("public int answersFor", "lacking <= 0", "trust > 0 && lacking <= 0");
    }

    private static void answersForRefused(Edges e) {
        e.edge("NO_SUCH if there is no such solver or word", d -> {
            d.due("answersFor(0, 0) without words", d.x.answersFor(0, 0), BentWords.NO_SUCH);
            d.catAnd(0);
            for (int solver : NO_SOLVERS) {
                d.due("answersFor(" + solver + ", 1)", d.x.answersFor(solver, 1), BentWords.NO_SUCH);
            }
            for (int word : NO_WORDS_OF_TWO) {
                d.due("answersFor(0, " + word + ")", d.x.answersFor(0, word), BentWords.NO_SUCH);
            }
            d.due("answersFor(5, 1)", d.x.answersFor(5, 1), 2);
        })
            .brokenBy("public int answersFor", "!isSolver(solver) ||", "solver < 0 ||")
            .brokenBy("public int answersFor", "!isSolver(solver) ||", "solver >= SOLVERS ||")
            .brokenBy("public int answersFor", "!now.hasWord(word)", "word < 0 || word > now.wordCount")
            .brokenBy("public int answersFor", "!now.hasWord(word)", "word >= now.wordCount")
            .brokenBy("public int answersFor", "NO_SUCH", "BAD_VALUE");

        e.edge("NOT_POSSIBLE if the word is not unknown", d -> {
            d.oneOfEachKind();
            d.due("answersFor(0, 0)", d.x.answersFor(0, 0), BentWords.NOT_POSSIBLE);
            d.due("answersFor(0, 2)", d.x.answersFor(0, 2), BentWords.NOT_POSSIBLE);
            d.due("answersFor(0, 3)", d.x.answersFor(0, 3), BentWords.NOT_POSSIBLE);
            d.due("answersFor(0, 1): 60 and 65", d.x.answersFor(0, 1), 2);
        })
            .brokenBy("public int answersFor", "!= UNKNOWN", "== KNOWN")
            .brokenBy("public int answersFor", "!= UNKNOWN", "== SOLVED")
            .brokenBy("public int answersFor", "!= UNKNOWN", "== RETIRED");

        e.edge("NONE if 100 are not enough", d -> {
            d.catAnd(0);
            d.x.set(BentWords.UP, 0);
            d.x.set(BentWords.AGREE, 101);
            d.x.trust(0, 1);
            d.due("answersFor(0, 1): 101 of 1", d.x.answersFor(0, 1), BentWords.NONE);
            d.x.trust(0, 0);
            d.due("answersFor(0, 1): of 0", d.x.answersFor(0, 1), BentWords.NONE);
            d.x.set(BentWords.UP, 1);
            d.due("answersFor(0, 1): of 0 to 14", d.x.answersFor(0, 1), 15);
        })
            .brokenBy("MOST_RIGHT_ANSWERS = 100", "100", "101")
            .brokenBy("public int answersFor", "return NONE;", "return 101;")
            .brokenBy("public int answersFor", "return NONE;", "return NOT_POSSIBLE;");

        e.edge("NO_SUCH if there is no such solver or word; NOT_POSSIBLE if the word is not unknown; NONE if 100 are"
            + " not enough", d -> {
            d.catAnd(0);
            d.x.set(BentWords.UP, 0);
            d.x.trust(0, 0);
            d.due("answersFor(6, 0) of a known one", d.x.answersFor(6, 0), BentWords.NO_SUCH);
            d.due("answersFor(0, 0) of a known one, by 0", d.x.answersFor(0, 0), BentWords.NOT_POSSIBLE);
        }).brokenBy("public int answersFor", "!isSolver(solver) ||", "!isSolver(solver) && now.words[word].kind == UNKNOWN ||")
            .brokenBy("public int answersFor", "kind != UNKNOWN", "kind != UNKNOWN && now.solvers[solver].trust > 0");
    }

    private static void ifVoted(Edges e) {
        e.edge("seconds: 1 to 60", d -> {
            d.catAnd(0);
            d.right(0, 1, "a", 1);
            d.x.set(BentWords.EARLY, 0);
            d.x.set(BentWords.FAST, 30);
            d.due("ifVoted(1, 1, 1)", d.x.ifVoted(1, 1, 1), 3);
            d.due("ifVoted(1, 1, 58)", d.x.ifVoted(1, 1, 58), 3);
            d.due("ifVoted(1, 1, 59)", d.x.ifVoted(1, 1, 59), 2);
            d.due("ifVoted(1, 1, 60)", d.x.ifVoted(1, 1, 60), 2);
        })
            .brokenBy("isWithin(seconds, 1, MOST_SECONDS)", "1", "2")
            .brokenBy("isWithin(seconds, 1, MOST_SECONDS)", "MOST_SECONDS", "MOST_SECONDS - 1")
            .brokenBy("public int ifVoted", "asked.seconds + seconds", "asked.seconds");

        e.edge("Tells what would become of a word, if a solver answered right, and voted for its leading answer, in"
            + " some seconds", d -> {
            d.x.set(BentWords.UP, 0);
            d.x.set(BentWords.EARLY, 0);
            d.catAnd(0);
            d.right(0, 1, "a", 9);
            d.right(1, 1, "b", 9);
            d.due("ifVoted(2, 1, 9): 100 and 50", d.x.ifVoted(2, 1, 9), 2);
            d.x.trust(2, 49);
            d.due("ifVoted(2, 1, 9): 99 and 50", d.x.ifVoted(2, 1, 9), 1);
            d.x.trust(2, 10);
            d.right(2, 1, "b", 2);
            d.x.trust(2, 40);
            d.due("ifVoted(2, 1, 2): 50 and 100, a mean of 5", d.x.ifVoted(2, 1, 2), 2);
            d.x.set(BentWords.FAST, 6);
            d.due("ifVoted(2, 1, 2): 50 and 100, a mean of 5", d.x.ifVoted(2, 1, 2), 3);
            d.due("ifVoted(2, 1, 4): 50 and 100, a mean of 6", d.x.ifVoted(2, 1, 4), 2);
            d.x.set(BentWords.LEAD, 51);
            d.due("ifVoted(2, 1, 9): a lead of 50", d.x.ifVoted(2, 1, 9), 1);
        })
            .brokenBy("now.weightLacking(word) > now.solvers[solver].trust", "now.weightLacking(word)",
                "now.settings[AGREE] - now.ballot.weights[0]")
            .brokenBy("now.kindWhenAgreed(asked.votes + 1, asked.seconds + seconds)", "asked.seconds + seconds",
                "9 * asked.votes + seconds")
            .brokenBy("now.kindWhenAgreed(asked.votes + 1, asked.seconds + seconds)", "asked.seconds + seconds",
                "asked.seconds + 9");

        e.edge("Returns its kind then", d -> {
            d.catAnd(0, 0);
            d.right(0, 1, "a", 9);
            d.x.trust(1, 49);
            d.due("ifVoted(1, 1, 9): 49 and 50", d.x.ifVoted(1, 1, 9), 1);
            d.x.trust(1, 50);
            d.due("ifVoted(1, 1, 9): 50 and 50, 2 votes", d.x.ifVoted(1, 1, 9), 3);
            d.x.set(BentWords.EARLY, 1);
            d.due("ifVoted(1, 1, 9): 50 and 50, EARLY 1", d.x.ifVoted(1, 1, 9), 2);
            d.due("ifVoted(1, 1, 1): a mean of 5", d.x.ifVoted(1, 1, 1), 2);
            d.x.set(BentWords.FAST, 6);
            d.due("ifVoted(1, 1, 2): a mean of 5", d.x.ifVoted(1, 1, 2), 3);
            d.due("ifVoted(1, 1, 3): a mean of 6", d.x.ifVoted(1, 1, 3), 2);
            d.x.set(BentWords.LEAD, 100);
            d.due("ifVoted(1, 1, 9): a lead of 100", d.x.ifVoted(1, 1, 9), 2);
            d.x.set(BentWords.LEAD, 101);
            d.due("ifVoted(1, 1, 9): a lead of 100 of 101", d.x.ifVoted(1, 1, 9), 1);
            d.x.set(BentWords.LEAD, 0);
            d.x.set(BentWords.AGREE, 50);
            d.x.trust(1, 0);
            d.due("ifVoted(1, 1, 9): nothing is lacking, by 0", d.x.ifVoted(1, 1, 9), 2);
            d.x.set(BentWords.EARLY, 9);
            d.due("ifVoted(1, 1, 9): nothing is lacking, EARLY 9", d.x.ifVoted(1, 1, 9), 3);
            d.dueWord(1, 1, 0, 1, 1, 50, 50, 9);
        })
            .brokenBy("now.weightLacking(word) > now.solvers[solver].trust", "> now", ">= now")
            .brokenBy("now.kindWhenAgreed(asked.votes + 1,", "asked.votes + 1", "asked.votes")
            .brokenBy("now.weightLacking(word) > now.solvers[solver].trust", "now.solvers[solver].trust",
                "now.trustBehindRight(now.solvers[solver].trust)");
    }

    private static void ifVotedRefused(Edges e) {
        e.edge("NO_SUCH if there is no such solver or word", d -> {
            d.due("ifVoted(0, 0, 9) without words", d.x.ifVoted(0, 0, 9), BentWords.NO_SUCH);
            d.catAnd(0);
            d.right(0, 1, "a", 9);
            for (int solver : NO_SOLVERS) {
                d.due("ifVoted(" + solver + ", 1, 9)", d.x.ifVoted(solver, 1, 9), BentWords.NO_SUCH);
            }
            for (int word : NO_WORDS_OF_TWO) {
                d.due("ifVoted(0, " + word + ", 9)", d.x.ifVoted(0, word, 9), BentWords.NO_SUCH);
            }
            d.due("ifVoted(5, 1, 9)", d.x.ifVoted(5, 1, 9), 3);
        })
            .brokenBy("public int ifVoted", "!isSolver(solver) ||", "solver < 0 ||")
            .brokenBy("public int ifVoted", "!isSolver(solver) ||", "solver >= SOLVERS ||")
            .brokenBy("public int ifVoted", "!now.hasWord(word)", "word < 0 || word > now.wordCount")
            .brokenBy("public int ifVoted", "!now.hasWord(word)", "word >= now.wordCount")
            .brokenBy("public int ifVoted", "NO_SUCH", "BAD_VALUE");

        e.edge("BAD_VALUE if seconds is out of range", d -> {
            d.catAnd(0);
            d.right(0, 1, "a", 9);
            int[] bad = {0, -1, 61, Integer.MIN_VALUE, Integer.MAX_VALUE};
            for (int seconds : bad) {
                d.due("ifVoted(0, 1, " + seconds + ")", d.x.ifVoted(0, 1, seconds), BentWords.BAD_VALUE);
            }
        })
            .brokenBy("isWithin(seconds, 1, MOST_SECONDS)", "1", "0")
            .brokenBy("isWithin(seconds, 1, MOST_SECONDS)", "MOST_SECONDS", "MOST_SECONDS + 1")
            .brokenBy("!isWithin(seconds, 1, MOST_SECONDS)", "seconds < 1")
            .brokenBy("public int ifVoted", "BAD_VALUE", "NOT_POSSIBLE");

        e.edge("NOT_POSSIBLE if the word is not unknown, or has no votes", d -> {
            d.oneOfEachKind();
            for (int word = 0; word < 4; word++) {
                d.due("ifVoted(0, " + word + ", 9)", d.x.ifVoted(0, word, 9), BentWords.NOT_POSSIBLE);
            }
            d.x.trust(1, 0);
            d.right(1, 1, "a", 9);
            d.due("ifVoted(1, 1, 9) with a vote of 0", d.x.ifVoted(1, 1, 9), 1);
            d.x.bend(1, 9);
            d.due("ifVoted(1, 1, 9) behind bend", d.x.ifVoted(1, 1, 9), BentWords.NOT_POSSIBLE);
        })
            .brokenBy("asked.kind != UNKNOWN || asked.votes == 0", "|| asked.votes == 0", "")
            .brokenBy("asked.kind != UNKNOWN || asked.votes == 0", "asked.kind != UNKNOWN ||", "")
            .brokenBy("asked.kind != UNKNOWN || asked.votes == 0", "asked.kind != UNKNOWN", "asked.kind == SOLVED")
            .brokenBy("asked.kind != UNKNOWN || asked.votes == 0", "asked.kind != UNKNOWN", "asked.kind == RETIRED")
            .brokenBy("asked.kind != UNKNOWN || asked.votes == 0", "asked.votes == 0", "now.ballot.leadingWeight(word) == 0");

        e.edge("NO_SUCH if there is no such solver or word; BAD_VALUE if seconds is out of range; NOT_POSSIBLE if the"
            + " word is not unknown, or has no votes", d -> {
            d.catAnd(0);
            d.due("ifVoted(6, 1, 61)", d.x.ifVoted(6, 1, 61), BentWords.NO_SUCH);
            d.due("ifVoted(0, 2, 0)", d.x.ifVoted(0, 2, 0), BentWords.NO_SUCH);
            d.due("ifVoted(6, 0, 9)", d.x.ifVoted(6, 0, 9), BentWords.NO_SUCH);
            d.due("ifVoted(0, 0, 61) of a known one", d.x.ifVoted(0, 0, 61), BentWords.BAD_VALUE);
            d.due("ifVoted(0, 1, 0) without votes", d.x.ifVoted(0, 1, 0), BentWords.BAD_VALUE);
        }).brokenBy("public int ifVoted", "if (!isSolver", "if (isWithin(seconds, 1, MOST_SECONDS) && !isSolver")
            .brokenBy("!isWithin(seconds, 1, MOST_SECONDS)", "now.words[word].votes > 0 && !isWithin(seconds, 1, MOST_SECONDS)");
    }

    private static void mostMissed(Edges e) {
        e.edge("Finds the known or solved word that was missed the most; of several the lowest", d -> {
            d.agreeAtOnce();
            d.catAnd(9, 0);
            d.know("dog", 0);
            d.right(0, 2, "pig", 9);
            String[] wrong = {"3=x", "2=x", "0=x", "3=x", "0=x", "2=x", "2=x"};
            int[] found = {3, 2, 0, 3, 0, 0, 2};
            for (int i = 0; i < wrong.length; i++) {
                d.answer("1:" + wrong[i] + "+1=a@9");
                d.due("mostMissed() behind " + (i + 1), d.x.mostMissed(), found[i]);
            }
        })
            .brokenBy("now.words[i].missed > most", ">", ">=")
            .brokenBy("most = now.words[i].missed;", "")
            .brokenBy("now.words[i].isTold() && now.words[i].missed", "now.words[i].isTold()", "now.words[i].kind == KNOWN")
            .brokenBy("now.words[i].isTold() && now.words[i].missed", "now.words[i].isTold()", "now.words[i].kind == SOLVED");

        e.edge("NONE if none was missed", d -> {
            d.due("mostMissed() without words", d.x.mostMissed(), BentWords.NONE);
            d.oneOfEachKind();
            d.due("mostMissed()", d.x.mostMissed(), BentWords.NONE);
            d.answer("1:2=x+1=a@9");
            d.due("mostMissed() of the solved one", d.x.mostMissed(), 2);
            d.x.bend(2, 9);
            d.due("mostMissed() behind bend", d.x.mostMissed(), BentWords.NONE);
            d.wrong(1, 1, "a", 9);
            d.due("mostMissed() of the known one", d.x.mostMissed(), 0);
            d.x.drop(0);
            d.due("mostMissed() behind drop", d.x.mostMissed(), BentWords.NONE);
        })
            .brokenBy("public int mostMissed", "most = 0", "most = -1")
            .brokenBy("public int mostMissed", "found = NONE", "found = 0")
            .brokenBy("public int mostMissed", "found = NONE", "found = NO_SUCH");
    }

    private static void nearest(Edges e) {
        e.edge("Finds the unknown word for which the least weight is lacking; of several the lowest", d -> {
            d.catAnd(2, 1, 1, 9);
            d.due("nearest() of 120, 110, 110 and 190", d.x.nearest(), 2);
            d.x.trust(0, 79);
            d.right(0, 4, "a", 9);
            d.due("nearest() of 120, 110, 110 and 111", d.x.nearest(), 2);
            d.x.trust(0, 1);
            d.right(0, 4, "a", 9);
            d.due("nearest() of 120, 110, 110 and 110", d.x.nearest(), 2);
            d.x.trust(0, 1);
            d.right(0, 4, "a", 9);
            d.due("nearest() of 120, 110, 110 and 109", d.x.nearest(), 4);
            d.x.trust(0, 30);
            d.right(0, 1, "a", 9);
            d.due("nearest() of 90, 110, 110 and 109", d.x.nearest(), 1);
            d.x.set(BentWords.AGREE, 10);
            d.x.set(BentWords.LEAD, 0);
            d.due("nearest() of 0, 20, 20 and 19", d.x.nearest(), 1);
            d.right(0, 3, "a", 9);
            d.due("word 3 is retired", d.x.word(3, 0), 3);
            d.x.bend(3, 9);
            d.right(0, 3, "a", 9);
            d.right(1, 3, "a", 9);
            d.due("nearest() of 0, 20, 15 and 19", d.x.nearest(), 1);
        })
            .brokenBy("found == NONE || lacking < least", "<", "<=")
            .brokenBy("least = lacking;", "")
            .brokenBy("found == NONE || lacking < least", "lacking < least", "lacking < least - 1")
            .brokenBy("public int nearest", "kind == UNKNOWN", "kind != KNOWN && now.words[i].votes == 0");

        e.edge("NONE if there is no unknown one", d -> {
            d.due("nearest() without words", d.x.nearest(), BentWords.NONE);
            d.oneOfEachKind();
            d.due("nearest()", d.x.nearest(), 1);
            d.x.drop(1);
            d.due("nearest() behind drop", d.x.nearest(), BentWords.NONE);
            d.x.bend(2, 9);
            d.due("nearest() behind bend of the retired one", d.x.nearest(), 2);
            d.x.drop(0);
            d.x.drop(0);
            d.due("nearest() of word 0 alone", d.x.nearest(), 0);
        })
            .brokenBy("public int nearest", "kind == UNKNOWN", "kind != KNOWN")
            .brokenBy("public int nearest", "found = NONE", "found = NO_SUCH")
            .brokenBy("public int nearest", "kind == UNKNOWN", "kind == UNKNOWN || now.words[i].kind == SOLVED")
            .brokenBy("public int nearest", "i < now.wordCount", "i < now.wordCount - 1");
    }
}
