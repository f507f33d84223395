/** Promises 9 to 12: what there is. */
final class EdgesOfLooks {
    private static final int[] NO_WORDS_OF_THREE = {-1, 3, 11, 12, Integer.MIN_VALUE, Integer.MAX_VALUE};
    private static final int[] BELOW_0 = {-1, -2, Integer.MIN_VALUE};

    private EdgesOfLooks() { }

    static void addTo(Edges e) {
        e.below("Promise 9: word");
        wordVotes(e);
        wordLetters(e);
        e.below("Promise 10: vote");
        vote(e);
        voteRefused(e);
        e.below("Promise 11: solver");
        solver(e);
        e.below("Promise 12: count");
        count(e);
        countSoFar(e);
    }

    private static void wordVotes(Edges e) {
        e.edge("2 its votes, how many, 3 unlike answers that were voted for", d -> {
            int[][] behind = {{0, 0}, {1, 1}, {2, 1}, {3, 2}, {4, 2}, {5, 3}};
            String[] letters = {"a", "a", "b", "a", "ab"};
            d.catAnd(9, 9);
            d.x.set(BentWords.AGREE, 400);
            for (int i = 0; i < behind.length; i++) {
                d.due("votes behind " + i, d.x.word(1, 2), behind[i][0]);
                d.due("unlike answers behind " + i, d.x.word(1, 3), behind[i][1]);
                d.due("another word's unlike answers behind " + i, d.x.word(2, 3), behind[i][1]);
                if (i < letters.length) {
                    d.right(i % 6, 1, letters[i], 9);
                    d.right(i % 6, 2, letters[i], 9);
                }
            }
            d.due("votes of a known one", d.x.word(0, 2), 0);
            d.due("unlike answers of a known one", d.x.word(0, 3), 0);
        })
            .brokenBy("int unlikeAnswers", "many = 0", "many = 1")
            .brokenBy("case 3: return now.ballot.unlikeAnswers(word);", "now.ballot.unlikeAnswers(word)", "asked.votes")
            .brokenBy("int unlikeAnswers", "words[i] == word", "words[i] >= word")
            .brokenBy("word.votes++;", "word.votes = Math.max(word.votes, ballot.unlikeAnswers(part.word));")
            .brokenBy("private int placeOfLetters", "letters[i] == answered", "false")
            .brokenBy("private int placeOfLetters", "words[i] == word &&", "");

        e.edge("4 the weight of its leading answer (0 without votes), 5 its lead (0 without votes), 6 the mean"
            + " seconds of its votes (0 without)", d -> {
            d.oneOfEachKind();
            d.dueWord(0, 0, 0, 0, 0, 0, 0, 0);
            d.dueWord(1, 1, 9, 0, 0, 0, 0, 0);
            d.dueWord(2, 2, 0, 1, 1, 50, 50, 9);
            d.dueWord(3, 3, 0, 1, 1, 55, 55, 1);
            d.right(1, 1, "a", 60);
            d.dueWord(1, 1, 9, 1, 1, 50, 50, 60);
            d.right(2, 1, "b", 1);
            d.dueWord(1, 1, 9, 2, 2, 50, 0, 30);
            d.x.bend(1, 9);
            d.dueWord(1, 1, 9, 0, 0, 0, 0, 0);
        })
            .brokenBy("int leadingWeight", "NOWHERE ? 0", "NOWHERE ? NONE")
            .brokenBy("int leadOf", "return 0;", "return NONE;")
            .brokenBy("many == 0 ? 0 : sum / many", "many == 0 ? NONE : sum / many")
            .brokenBy("many == 0 ? 0 : sum / many", "sum / many");

        e.edge("7 how often it was missed", d -> {
            d.catAnd(9);
            d.know("dog", 0);
            for (int i = 0; i < 13; i++) {
                d.due("word(0, 7)", d.x.word(0, 7), i);
                d.due("word(1, 7)", d.x.word(1, 7), 0);
                d.due("word(2, 7)", d.x.word(2, 7), i / 2);
                d.wrong(i % 6, 1, "a", 9);
                if (i % 2 == 1) {
                    d.answer("0:2=dot+1=a@9");
                }
                d.right(i % 6, 1, "" + (char) ('a' + i), 9);
            }
        })
            .brokenBy("told.missed++;", "told.missed = Math.min(11, told.missed + 1);")
            .brokenBy("told.missed++;", "words[0].missed++;");
    }

    private static void wordLetters(Edges e) {
        e.edge("8 how many letters it is, if it is known or solved (NONE), 9 and more the codes of these", d -> {
            d.oneOfEachKind();
            d.dueWord(0, 0, 0, 0, 0, 0, 0, 0, 0, 3, 'c', 'a', 't', BentWords.NONE);
            d.right(0, 1, "a", 9);
            d.dueWord(1, 1, 9, 1, 1, 60, 60, 9, 0, BentWords.NONE, BentWords.NONE);
            d.dueWord(2, 2, 0, 1, 1, 50, 50, 9, 0, 3, 'd', 'o', 'g', BentWords.NONE);
            d.dueWord(3, 3, 0, 1, 1, 55, 55, 1, 0, BentWords.NONE, BentWords.NONE);
            d.x.bend(2, 9);
            d.dueWord(2, 1, 9, 0, 0, 0, 0, 0, 0, BentWords.NONE, BentWords.NONE);
            d.know("z", 0);
            d.dueWord(4, 0, 0, 0, 0, 0, 0, 0, 0, 1, 'z', BentWords.NONE);
            d.know("abcdef", 0);
            d.dueWord(5, 0, 0, 0, 0, 0, 0, 0, 0, 6, 'a', 'b', 'c', 'd', 'e', 'f', BentWords.NONE);
        })
            .brokenBy("private static int aboutLetters", "many == 0 ||", "what != 0 && many == 0 ||")
            .brokenBy("what - 8", "what - 7")
            .brokenBy("many < MOST_LETTERS && letters", "many < MOST_LETTERS &&", "many < MOST_LETTERS - 1 &&")
            .brokenBy("if (word.kind == SOLVED) {", "word.letters = ballot.leadingLetters(number); if (word.kind == SOLVED) {");

        e.edge("NO_SUCH if there is no such word", d -> {
            d.due("word(0, 0) without words", d.x.word(0, 0), BentWords.NO_SUCH);
            d.catAnd(9, 9);
            for (int word : NO_WORDS_OF_THREE) {
                for (int what = 0; what < 10; what++) {
                    d.due("word(" + word + ", " + what + ")", d.x.word(word, what), BentWords.NO_SUCH);
                }
            }
            d.due("word(2, 0)", d.x.word(2, 0), 1);
            d.due("word(0, 0)", d.x.word(0, 0), 0);
        })
            .brokenBy("public int word(", "!now.hasWord(word)", "word < 0 || word > now.wordCount")
            .brokenBy("public int word(", "!now.hasWord(word)", "word >= now.wordCount")
            .brokenBy("public int word(", "NO_SUCH", "NONE");

        e.edge("BAD_VALUE if what is below 0", d -> {
            d.catAnd(9);
            for (int what : BELOW_0) {
                d.due("word(0, " + what + ")", d.x.word(0, what), BentWords.BAD_VALUE);
                d.due("word(1, " + what + ")", d.x.word(1, what), BentWords.BAD_VALUE);
            }
            d.due("word(1, 0)", d.x.word(1, 0), 1);
        })
            .brokenBy("public int word(", "what < 0", "what < -1")
            .brokenBy("public int word(", "what < 0", "what <= 0")
            .brokenBy("public int word(", "BAD_VALUE", "NONE");

        e.edge("NONE if it has not so many letters", d -> {
            d.know("a", 0);
            d.know("abcdef", 0);
            d.x.add(0);
            int[] beyond = {1, 2, 32, 100, Integer.MAX_VALUE - 20};
            for (int more : beyond) {
                d.due("word(0, " + (9 + more) + ")", d.x.word(0, 9 + more), BentWords.NONE);
                d.due("word(1, " + (14 + more) + ")", d.x.word(1, 14 + more), BentWords.NONE);
                d.due("word(2, " + (8 + more) + ")", d.x.word(2, 8 + more), BentWords.NONE);
            }
            d.due("word(0, 9)", d.x.word(0, 9), 'a');
            d.due("word(1, 14)", d.x.word(1, 14), 'f');
            d.due("word(0, MAX)", d.x.word(0, Integer.MAX_VALUE), BentWords.NONE);
            d.due("word(1, MAX)", d.x.word(1, Integer.MAX_VALUE), BentWords.NONE);
            d.due("word(2, 9)", d.x.word(2, 9), BentWords.NONE);
        })
            .brokenBy("what > many", "what > many + 1")
            .brokenBy("what > many", "what >= many")
            .brokenBy("what > many", "what > MOST_LETTERS");

        e.edge("NO_SUCH if there is no such word; BAD_VALUE if what is below 0; NONE if it has not so many letters", d -> {
            d.due("word(0, -1) without words", d.x.word(0, -1), BentWords.NO_SUCH);
            d.due("word(0, 9) without words", d.x.word(0, 9), BentWords.NO_SUCH);
            d.x.add(0);
            d.due("word(1, -1)", d.x.word(1, -1), BentWords.NO_SUCH);
            d.due("word(0, -1) without letters", d.x.word(0, -1), BentWords.BAD_VALUE);
        }).brokenBy("public int word(", "!now.hasWord(word)", "what >= 0 && !now.hasWord(word)")
            .brokenBy("public int word(", "if (what < 0", "if (what < 0 && now.words[word].isTold()");
    }

    private static void vote(Edges e) {
        e.edge("0 for the one that was voted for first, 1 for the next other one, and so on", d -> {
            d.x.set(BentWords.AGREE, 400);
            d.catAnd(9, 9);
            String[] letters = {"m", "z", "m", "a", "z", "b", "a", "m"};
            for (String answer : letters) {
                d.right(1, 1, answer, 9);
                d.right(1, 2, "x" + answer, 9);
            }
            String[] inOrder = {"m", "z", "a", "b"};
            int[] votes = {3, 2, 2, 1};
            for (int i = 0; i < 4; i++) {
                d.due("vote(1, " + i + ", 0)", d.x.vote(1, i, 0), votes[i]);
                d.due("vote(1, " + i + ", 4)", d.x.vote(1, i, 4), inOrder[i].charAt(0));
                d.due("vote(2, " + i + ", 5)", d.x.vote(2, i, 5), inOrder[i].charAt(0));
            }
        })
            .brokenBy("int placeOfAnswer", "before++;", "before = answer;")
            .brokenBy("int placeOfAnswer", "words[i] == word", "words[i] >= word")
            .brokenBy("private int placeOfLetters", "letters[i] == answered", "letters[i] == answered && i >= size - 4");

        e.edge("what: 0 its votes, how many, 1 its weight", d -> {
            d.x.set(BentWords.AGREE, 400);
            d.x.trust(3, 0);
            d.x.set(BentWords.UP, 0);
            d.catAnd(9);
            for (int votes = 1; votes < 8; votes++) {
                d.right(3, 1, "a", 9);
                d.right(2, 1, "b", 9);
                d.dueVote(1, 0, votes, 0);
                d.dueVote(1, 1, votes, 50 * votes);
            }
        })
            .brokenBy("votes[place]++;", "votes[place] += weight > 0 ? 1 : 0;")
            .brokenBy("votes[place]++;", "votes[place] = 1;")
            .brokenBy("weights[place] += weight;", "weights[place] = weight;");

        e.edge("2 its place by weight: how many answers have more weight, or as much and an earlier first vote", d -> {
            d.x.set(BentWords.UP, 0);
            d.catAnd(9, 9);
            int[] trusts = {20, 0, 20, 30, 0, 10};
            int[] places = {1, 4, 2, 0, 5, 3};
            for (int i = 0; i < 6; i++) {
                d.x.trust(i, trusts[i]);
            }
            d.right(3, 2, "z", 9);
            d.right(3, 2, "z", 9);
            d.right(3, 2, "y", 9);
            for (int i = 0; i < 6; i++) {
                d.right(i, 1, "" + (char) ('f' - i), 9);
            }
            for (int i = 0; i < 6; i++) {
                d.due("vote(1, " + i + ", 2)", d.x.vote(1, i, 2), places[i]);
            }
            d.due("vote(2, 0, 2)", d.x.vote(2, 0, 2), 0);
            d.due("vote(2, 1, 2)", d.x.vote(2, 1, 2), 1);
            d.right(5, 1, "f", 9);
            d.due("vote(1, 0, 2) with as much as another one", d.x.vote(1, 0, 2), 0);
            d.due("vote(1, 3, 2) with as much as an earlier one", d.x.vote(1, 3, 2), 1);
        })
            .brokenBy("weights[i] == weights[place] && i < place", "i < place", "i > place")
            .brokenBy("weights[i] == weights[place] && i < place", "i < place", "false")
            .brokenBy("int rankByWeight", "words[i] == words[place] && isAhead", "isAhead")
            .brokenBy("weights[i] > weights[place] ||", "weights[i] > weights[place] ||", "weights[i] > weights[place] + 10 ||")
            .brokenBy("weights[i] > weights[place] ||", "weights[i] > weights[place] ||", "weights[i] < weights[place] ||");

        e.edge("3 how many letters it is, 4 and more the codes of these", d -> {
            d.catAnd(9);
            d.right(0, 1, "z", 9);
            d.right(1, 1, "abcdef", 9);
            d.dueVote(1, 0, 1, 50, 0, 1, 'z', BentWords.NONE);
            d.dueVote(1, 1, 1, 50, 1, 6, 'a', 'b', 'c', 'd', 'e', 'f', BentWords.NONE);
        })
            .brokenBy("what - 3", "what - 2")
            .brokenBy("what - 3", "what - 4")
            .brokenBy("many < MOST_LETTERS && letters", "many < MOST_LETTERS &&", "many < MOST_LETTERS - 1 &&")
            .brokenBy("private static int lettersIn", "many = 0", "many = 2");
    }

    private static void voteRefused(Edges e) {
        e.edge("NO_SUCH if there is no such word or answer", d -> {
            d.due("vote(0, 0, 0) without words", d.x.vote(0, 0, 0), BentWords.NO_SUCH);
            d.catAnd(9, 9);
            d.right(0, 1, "a", 9);
            d.right(1, 1, "b", 9);
            for (int word : NO_WORDS_OF_THREE) {
                d.due("vote(" + word + ", 0, 0)", d.x.vote(word, 0, 0), BentWords.NO_SUCH);
            }
            int[] answers = {-1, 2, 3, Integer.MIN_VALUE, Integer.MAX_VALUE};
            for (int answer : answers) {
                d.due("vote(1, " + answer + ", 0)", d.x.vote(1, answer, 0), BentWords.NO_SUCH);
            }
            d.due("vote(0, 0, 0) of a known one", d.x.vote(0, 0, 0), BentWords.NO_SUCH);
            d.due("vote(2, 0, 0) without votes", d.x.vote(2, 0, 0), BentWords.NO_SUCH);
            d.due("vote(1, 1, 0)", d.x.vote(1, 1, 0), 1);
        })
            .brokenBy("public int vote(", "place == NOWHERE", "place == NOWHERE && answer >= 0")
            .brokenBy("int placeOfAnswer", "before == answer", "before >= answer")
            .brokenBy("int placeOfAnswer", "return NOWHERE;", "return size - 1;")
            .brokenBy("public int vote(", "NO_SUCH", "BAD_VALUE");

        e.edge("BAD_VALUE if what is below 0", d -> {
            d.catAnd(9);
            d.right(0, 1, "a", 9);
            for (int what : BELOW_0) {
                d.due("vote(1, 0, " + what + ")", d.x.vote(1, 0, what), BentWords.BAD_VALUE);
            }
            d.due("vote(1, 0, 0)", d.x.vote(1, 0, 0), 1);
        })
            .brokenBy("public int vote(", "what < 0", "what < -1")
            .brokenBy("public int vote(", "what < 0", "what <= 0")
            .brokenBy("public int vote(", "BAD_VALUE", "NONE");

        e.edge("NONE if it has not so many letters", d -> {
            d.catAnd(9);
            d.right(0, 1, "a", 9);
            d.right(1, 1, "abcdef", 9);
            int[] beyond = {1, 2, 32, 100, Integer.MAX_VALUE - 9};
            for (int more : beyond) {
                d.due("vote(1, 0, " + (4 + more) + ")", d.x.vote(1, 0, 4 + more), BentWords.NONE);
                d.due("vote(1, 1, " + (9 + more) + ")", d.x.vote(1, 1, 9 + more), BentWords.NONE);
            }
            d.due("vote(1, 0, 4)", d.x.vote(1, 0, 4), 'a');
            d.due("vote(1, 1, 9)", d.x.vote(1, 1, 9), 'f');
            d.due("vote(1, 0, MAX)", d.x.vote(1, 0, Integer.MAX_VALUE), BentWords.NONE);
        })
            .brokenBy("what > many", "what > many + 1")
            .brokenBy("what > many", "what >= many")
            .brokenBy("what > many", "what > MOST_LETTERS");

        e.edge("NO_SUCH if there is no such word or answer; BAD_VALUE if what is below 0; NONE if it has not so many"
            + " letters", d -> {
            d.due("vote(0, 0, -1) without words", d.x.vote(0, 0, -1), BentWords.NO_SUCH);
            d.catAnd(9);
            d.due("vote(1, 0, -1) without votes", d.x.vote(1, 0, -1), BentWords.NO_SUCH);
            d.due("vote(1, 0, 20) without votes", d.x.vote(1, 0, 20), BentWords.NO_SUCH);
        }).brokenBy("public int vote(", "if (place == NOWHERE) {", "if (what < 0) { return BAD_VALUE; } if (place == NOWHERE) {");
    }

    private static void solver(Edges e) {
        e.edge("1 answers so far, 2 right ones so far", d -> {
            d.catAnd(9);
            d.dueSolver(4, 50, 0, 0);
            d.right(4, 1, "a", 9);
            d.dueSolver(4, 55, 1, 1);
            d.wrong(4, 1, "a", 9);
            d.dueSolver(4, 45, 2, 1);
            d.right(4, 2, "a", 9);
            d.dueSolver(4, 45, 2, 1);
            d.right(4, 1, "a", 9);
            d.dueSolver(4, 50, 3, 2);
            d.x.bend(1, 9);
            d.x.drop(1);
            d.dueSolver(4, 50, 3, 2);
            d.dueSolver(3, 50, 0, 0);
        })
            .brokenBy("solver.answers++;", "if (told.letters == said.told.letters) { solver.answers++; }")
            .brokenBy("solver.right++;", "solver.right = solver.answers;")
            .brokenBy("solver.right++;", "")
            .brokenBy("} else {\n                solver.trust", "} else {", "} else { solver.right++;");

        e.edge("3 its place by trust: how many solvers have more, or as much and a lower number", d -> {
            int[][] rows = {{50, 50, 50, 50, 50, 50}, {0, 100, 0, 100, 0, 100}, {1, 2, 3, 4, 5, 6}, {6, 5, 4, 3, 2, 1}, {7, 7, 8, 8, 7, 6}};
            int[][] places = {{0, 1, 2, 3, 4, 5}, {3, 0, 4, 1, 5, 2}, {5, 4, 3, 2, 1, 0}, {0, 1, 2, 3, 4, 5}, {2, 3, 0, 1, 4, 5}};
            for (int row = 0; row < rows.length; row++) {
                for (int solver = 0; solver < 6; solver++) {
                    d.x.trust(solver, rows[row][solver]);
                }
                for (int solver = 0; solver < 6; solver++) {
                    d.due("solver(" + solver + ", 3) of row " + row, d.x.solver(solver, 3), places[row][solver]);
                }
            }
        })
            .brokenBy("more == 0 && i < solver", "i < solver", "i <= solver")
            .brokenBy("more == 0 && i < solver", "i < solver", "i > solver")
            .brokenBy("more > 0 || more == 0", "more > 0", "more > 1")
            .brokenBy("more > 0 || more == 0", "more > 0", "more < 0");

        e.edge("4 the mean seconds of all its answers so far (0 without)", d -> {
            d.catAnd(9);
            d.dueSolver(2, 50, 0, 0, 2, 0);
            d.right(2, 1, "a", 60);
            d.due("solver(2, 4) of 60", d.x.solver(2, 4), 60);
            d.wrong(2, 1, "a", 11);
            d.due("solver(2, 4) of 60 and 11", d.x.solver(2, 4), 35);
            d.wrong(2, 1, "a", 1);
            d.due("solver(2, 4) of 60, 11 and 1", d.x.solver(2, 4), 24);
            d.due("solver(1, 4)", d.x.solver(1, 4), 0);
        })
            .brokenBy("many == 0 ? 0 : sum / many", "many == 0 ? NONE : sum / many")
            .brokenBy("mean(asked.seconds, asked.answers)", "asked.answers", "asked.right")
            .brokenBy("solver.seconds += said.seconds;",
                "if (told.letters == said.told.letters) { solver.seconds += said.seconds; }");

        e.edge("NO_SUCH if there is no such solver", d -> {
            int[] solvers = {-1, 6, Integer.MIN_VALUE, Integer.MAX_VALUE};
            for (int solver : solvers) {
                for (int what = 0; what < 5; what++) {
                    d.due("solver(" + solver + ", " + what + ")", d.x.solver(solver, what), BentWords.NO_SUCH);
                }
            }
            d.due("solver(0, 0)", d.x.solver(0, 0), 50);
            d.due("solver(5, 0)", d.x.solver(5, 0), 50);
        })
            .brokenBy("public int solver(", "!isSolver(solver)", "solver < 0")
            .brokenBy("public int solver(", "!isSolver(solver)", "solver >= SOLVERS")
            .brokenBy("public int solver(", "!isSolver(solver)", "!isWithin(solver, 0, SOLVERS)")
            .brokenBy("public int solver(", "NO_SUCH", "BAD_VALUE");

        e.edge("BAD_VALUE if what is out of range", d -> {
            int[] whats = {-1, 5, 6, Integer.MIN_VALUE, Integer.MAX_VALUE};
            for (int what : whats) {
                d.due("solver(0, " + what + ")", d.x.solver(0, what), BentWords.BAD_VALUE);
            }
            d.due("solver(1, 4)", d.x.solver(1, 4), 0);
            d.due("solver(1, 0)", d.x.solver(1, 0), 50);
        })
            .brokenBy("public int solver(", "default: return BAD_VALUE", "default: return NONE")
            .brokenBy("case 4: return mean(asked.seconds, asked.answers);", "case 4:", "case 5: case 4:")
            .brokenBy("public int solver(", "case 0:", "case -1: case 0:");

        e.edge("NO_SUCH if there is no such solver; BAD_VALUE if what is out of range", d -> {
            d.due("solver(6, 5)", d.x.solver(6, 5), BentWords.NO_SUCH);
            d.due("solver(-1, -1)", d.x.solver(-1, -1), BentWords.NO_SUCH);
        }).brokenBy("public int solver(", "!isSolver(solver)", "!isSolver(solver) && isWithin(what, 0, 4)");
    }

    private static void count(Edges e) {
        e.edge("0 to 5 the settings, 6 words, 7 to 10 words of the kinds 0 to 3", d -> {
            int[] settings = {10, 0, 0, 6, 8, 9};
            d.oneOfEachKind();
            d.x.set(BentWords.FAST, 6);
            d.x.set(BentWords.UP, 8);
            d.x.set(BentWords.DOWN, 9);
            for (int what = 0; what < 6; what++) {
                d.dueCount(what, settings[what]);
            }
            d.dueCount(6, 4);
            for (int kind = 0; kind < 4; kind++) {
                d.dueCount(7 + kind, 1);
            }
            for (int kind = 3; kind >= 0; kind--) {
                d.x.drop(kind);
                d.dueCount(6, kind);
                d.dueCount(7 + kind, 0);
            }
            for (int i = 0; i < 12; i++) {
                d.x.add(0);
            }
            d.dueCount(6, 12);
            d.dueCount(8, 12);
        })
            .brokenBy("int wordsOfKind", "i < wordCount", "i < wordCount - 1")
            .brokenBy("int wordsOfKind", "i < wordCount", "i < MOST_WORDS")
            .brokenBy("isWithin(what, 7, 7 + KINDS - 1)", "7 + KINDS - 1", "7 + KINDS - 2")
            .brokenBy("isWithin(what, 7, 7 + KINDS - 1)", "(what, 7,", "(what, 8,")
            .brokenBy("isWithin(what, 0, SETTINGS - 1)", "SETTINGS - 1", "SETTINGS - 2")
            .brokenBy("isWithin(what, 0, SETTINGS - 1)", "0", "1");

        e.edge("15 trust of all solvers, 16 the length of the pad, 17 how many changes can be undone", d -> {
            d.dueCount(15, 300);
            d.dueCount(16, 0);
            d.dueCount(17, 0);
            for (int i = 0; i < 6; i++) {
                d.x.trust(i, 0);
                d.dueCount(17, i + 1);
                d.dueCount(15, 300 - 50 * (i + 1));
            }
            for (int i = 0; i < 6; i++) {
                d.x.trust(i, 100);
                d.dueCount(17, 6);
            }
            d.dueCount(15, 600);
            d.pad("123456781234567812345678123456781234567812345678123456781234");
            d.dueCount(16, 60);
        })
            .brokenBy("int allTrust", "all = 0", "all = 1")
            .brokenBy("int allTrust", "i < SOLVERS", "i < SOLVERS - 1")
            .brokenBy("case 16: return pad.length;", "pad.length", "Math.min(pad.length, 59)")
            .brokenBy("case 17: return changes;", "changes", "Math.min(changes, 5)");

        e.edge("BAD_VALUE if what is out of range", d -> {
            int[] whats = {-1, 18, 19, Integer.MIN_VALUE, Integer.MAX_VALUE};
            for (int what : whats) {
                d.due("count(" + what + ")", d.x.count(what), BentWords.BAD_VALUE);
            }
            d.dueCount(0, 100);
            d.dueCount(17, 0);
        })
            .brokenBy("case 17: return changes;", "case 17:", "case 18: case 17:")
            .brokenBy("isWithin(what, 0, SETTINGS - 1)", "0", "-1")
            .brokenBy("public int count(", "default: return BAD_VALUE", "default: return NO_SUCH")
            .brokenBy("case 17: return changes;", "case 17:", "case 19:");
    }

    private static void countSoFar(Edges e) {
        e.edge("11 answers so far, 12 right ones so far, 13 words that were retired so far, 14 words that were solved"
            + " so far", d -> {
            for (int what = 11; what < 15; what++) {
                d.dueCount(what, 0);
            }
            d.agreeAtOnce();
            d.catAnd(9, 0, 0, 0, 0);
            for (int solver = 0; solver < 6; solver++) {
                d.wrong(solver, 1, "a", 9);
            }
            d.dueCount(11, 6);
            d.dueCount(12, 0);
            d.right(0, 2, "a", 9);
            d.right(5, 3, "a", 9);
            d.right(5, 4, "a", 1);
            d.right(0, 0, "a", 9);
            int[] soFar = {9, 3, 1, 2};
            for (int i = 0; i < 4; i++) {
                d.dueCount(11 + i, soFar[i]);
            }
            d.x.bend(2, 0);
            d.x.drop(4);
            d.x.drop(3);
            for (int i = 0; i < 4; i++) {
                d.dueCount(11 + i, soFar[i]);
            }
            d.right(1, 2, "a", 9);
            d.dueCount(14, 3);
            d.x.undo();
            d.dueCount(14, 2);
            d.dueCount(13, 1);
        })
            .brokenBy("int allAnswers", "i < SOLVERS", "i < SOLVERS - 1")
            .brokenBy("int allAnswers", "i = 0", "i = 1")
            .brokenBy("int allRight", "i < SOLVERS", "i < SOLVERS - 1")
            .brokenBy("int allRight", "i = 0", "i = 1")
            .brokenBy("case 13: return now.retiredSoFar;", "now.retiredSoFar", "now.wordsOfKind(RETIRED)")
            .brokenBy("case 14: return now.solvedSoFar;", "now.solvedSoFar", "now.wordsOfKind(SOLVED)")
            .brokenBy("int allRight", "solvers[i].right", "solvers[i].answers")
            .brokenBy("solvedSoFar = other.solvedSoFar;", "");
    }
}
