/** Promises 1 to 8: a new object, and the changes. */
public final class ChangesTest {
    private static final Due d = new Due();

    public static void main(String[] args) {
        newObject();
        set();
        setLooksWithTheNextVoteAlone();
        know();
        add();
        answerErrors();
        answerRightAndWrong();
        answerAgreed();
        answerTooSoon();
        solvedWordsServe();
        allWords();
        mostUnlikeAnswers();
        bend();
        drop();
        dropForgetsTheVotes();
        trust();
        d.end();
    }

    private static void newObject() {
        d.on("1 a new object");
        int[] first = {100, 30, 2, 5, 5, 10, 0, 0, 0, 0, 0, 0, 0, 0, 0, 300, 0, 0};
        for (int what = 0; what < first.length; what++) {
            d.dueCount(what, first[what]);
        }
        for (int solver = 0; solver < 6; solver++) {
            d.dueSolver(solver, 50, 0, 0, solver, 0);
        }
        d.due("undo()", d.x.undo(), BentWords.NOT_POSSIBLE);
        d.due("restore(0)", d.x.restore(0), BentWords.NOT_POSSIBLE);
        d.due("restore(1)", d.x.restore(1), BentWords.NOT_POSSIBLE);
        BentWords other = new BentWords();
        d.x.set(BentWords.AGREE, 11);
        d.due("another object's count(0)", other.count(0), 100);
    }

    private static void set() {
        d.on("2 set");
        int[] lowest = {10, 0, 0, 0, 0, 0};
        int[] highest = {400, 200, 9, 60, 20, 50};
        int[] first = {100, 30, 2, 5, 5, 10};
        for (int setting = 0; setting < 6; setting++) {
            d.due("set too low", d.x.set(setting, lowest[setting] - 1), BentWords.BAD_VALUE);
            d.due("set too high", d.x.set(setting, highest[setting] + 1), BentWords.BAD_VALUE);
            d.due("set lowest", d.x.set(setting, lowest[setting]), first[setting]);
            d.dueCount(setting, lowest[setting]);
            d.due("set highest", d.x.set(setting, highest[setting]), lowest[setting]);
            d.dueCount(setting, highest[setting]);
        }
        d.due("set(-1, 20)", d.x.set(-1, 20), BentWords.BAD_VALUE);
        d.due("set(6, 20)", d.x.set(6, 20), BentWords.BAD_VALUE);
        d.due("set(MIN, 20)", d.x.set(Integer.MIN_VALUE, 20), BentWords.BAD_VALUE);
        d.due("set(MAX, 20)", d.x.set(Integer.MAX_VALUE, 20), BentWords.BAD_VALUE);
        d.due("set(0, MAX)", d.x.set(0, Integer.MAX_VALUE), BentWords.BAD_VALUE);

        d.on("2 set is a change");
        d.due("set(0, 100)", d.x.set(0, 100), 100);
        d.dueCount(17, 1);
        d.x.set(0, 9);
        d.dueCount(17, 1);
    }

    private static void setLooksWithTheNextVoteAlone() {
        d.on("2 set looks with the next vote alone");
        d.x.set(BentWords.EARLY, 0);
        d.know("abc", 0);
        d.x.add(0);
        d.due("answer", d.answer("0:0=abc+1=x@9"), 1);
        d.x.set(BentWords.AGREE, 10);
        d.dueWord(1, 1, 0, 1, 1, 50, 50, 9, 0);
        d.due("lacking(1)", d.x.lacking(1), 0);
        d.due("a wrong answer", d.answer("0:0=x+1=x@9"), 1);
        d.due("a vote", d.answer("0:0=abc+1=x@9"), 2);
    }

    private static void know() {
        d.on("3 know");
        d.due("know(-1)", d.x.know(-1), BentWords.BAD_VALUE);
        d.due("know(10)", d.x.know(10), BentWords.BAD_VALUE);
        d.due("know(0) of the empty pad", d.x.know(0), BentWords.BAD_TEXT);
        String[] bad = {"abcdefg", "aB", "a1", "1", "a`", "a{", "`", "{", "abcdef+", "Z"};
        for (String text : bad) {
            d.due("know of " + text, d.know(text, 0), BentWords.BAD_TEXT);
            d.dueCount(16, text.length());
        }
        d.dueCount(17, 0);
        d.due("know of abcdef", d.know("abcdef", 9), 0);
        d.dueCount(16, 0);
        d.dueCount(17, 1);
        d.dueWord(0, 0, 9, 0, 0, 0, 0, 0, 0, 6, 'a', 'b', 'c', 'd', 'e', 'f', BentWords.NONE);
        d.due("know of z", d.know("z", 0), 1);
        d.dueWord(1, 0, 0, 0, 0, 0, 0, 0, 0, 1, 'z', BentWords.NONE);

        d.on("3 know has its errors in their order");
        for (int i = 0; i < 12; i++) {
            d.due("know", d.know("a", 1), i);
        }
        d.due("a 13th", d.know("a", 1), BentWords.TOO_MANY);
        d.dueCount(16, 1);
        d.due("a 13th with a bad bend", d.x.know(10), BentWords.BAD_VALUE);
        d.due("a 13th of a bad text", d.know("A", 1), BentWords.BAD_TEXT);
        d.due("a bad bend of a bad text", d.x.know(-1), BentWords.BAD_VALUE);
    }

    private static void add() {
        d.on("4 add");
        d.due("add(-1)", d.x.add(-1), BentWords.BAD_VALUE);
        d.due("add(10)", d.x.add(10), BentWords.BAD_VALUE);
        d.dueCount(17, 0);
        d.pad("ab");
        d.due("add(0)", d.x.add(0), 0);
        d.dueCount(16, 2);
        d.dueCount(17, 1);
        d.dueWord(0, 1, 0, 0, 0, 0, 0, 0, 0, BentWords.NONE, BentWords.NONE);
        for (int i = 1; i < 12; i++) {
            d.due("add", d.x.add(9), i);
        }
        d.dueWord(11, 1, 9);
        d.due("a 13th", d.x.add(0), BentWords.TOO_MANY);
        d.due("a 13th with a bad bend", d.x.add(10), BentWords.BAD_VALUE);
        d.dueCount(6, 12);
        d.x.drop(3);
        d.due("add behind a drop", d.x.add(4), 11);
    }

    private static void answerErrors() {
        d.on("5 answer has errors");
        d.due("answer of the empty pad", d.x.answer(), BentWords.BAD_TEXT);
        d.due("of a text that ends too early", d.answer("0:0=a+1=b@"), BentWords.BAD_TEXT);
        d.due("of a text that goes on", d.answer("0:0=a+1=b@7+"), BentWords.BAD_TEXT);
        d.due("without words", d.answer("0:0=a+1=b@7"), BentWords.NO_SUCH);
        d.dueCount(16, 11);
        d.know("abc", 0);
        d.due("without the second word", d.answer("0:0=a+1=b@7"), BentWords.NO_SUCH);
        d.due("without the first word", d.answer("0:1=a+0=b@7"), BentWords.NO_SUCH);
        d.due("with a known second word", d.answer("0:0=abc+0=b@7"), BentWords.NOT_POSSIBLE);
        d.x.add(0);
        d.due("with an unknown first word", d.answer("0:1=a+1=b@7"), BentWords.NOT_POSSIBLE);
        d.due("with both the wrong way round", d.answer("0:1=a+0=abc@7"), BentWords.NOT_POSSIBLE);
        d.dueCount(16, 13);
        d.dueCount(17, 2);
        d.dueCount(11, 0);
        d.due("with an unknown first word that is there, and no second one", d.answer("0:1=a+11=b@7"), BentWords.NO_SUCH);
        d.due("as it should be", d.answer("0:0=abc+1=b@7"), 1);
        d.dueCount(16, 0);
        d.dueCount(17, 3);
    }

    private static void answerRightAndWrong() {
        d.on("5 answer, right and wrong");
        d.know("abc", 0);
        d.x.add(0);
        d.due("a right answer", d.answer("2:0=abc+1=xy@7"), 1);
        d.dueWord(1, 1, 0, 1, 1, 50, 50, 7, 0);
        d.dueVote(1, 0, 1, 50, 0, 2, 'x', 'y', BentWords.NONE);
        d.dueSolver(2, 55, 1, 1, 0, 7);
        d.due("a wrong answer", d.answer("2:0=abd+1=xy@60"), 1);
        d.dueWord(1, 1, 0, 1, 1, 50, 50, 7, 0);
        d.dueWord(0, 0, 0, 0, 0, 0, 0, 0, 1);
        d.dueSolver(2, 45, 2, 1, 5, 33);
        d.due("a shorter answer", d.answer("3:0=ab+1=xy@1"), 1);
        d.due("a longer answer", d.answer("3:0=abcd+1=xy@1"), 1);
        d.dueWord(0, 0, 0, 0, 0, 0, 0, 0, 3);
        d.dueSolver(3, 30, 2, 0, 5, 1);

        d.on("5 answer keeps trust from 0 to 100");
        d.know("abc", 0);
        d.x.add(9);
        d.x.trust(0, 9);
        d.answer("0:0=z+1=a@1");
        d.dueSolver(0, 0, 1, 0);
        d.due("a vote of weight 0", d.answer("0:0=abc+1=a@1"), 1);
        d.dueWord(1, 1, 9, 1, 1, 0, 0, 1);
        d.dueSolver(0, 5, 2, 1);
        d.x.trust(1, 96);
        d.answer("1:0=abc+1=b@1");
        d.dueSolver(1, 100, 1, 1);
        d.dueVote(1, 1, 1, 96, 0);
        d.x.set(BentWords.UP, 0);
        d.x.set(BentWords.DOWN, 0);
        d.answer("0:0=abc+1=a@1");
        d.answer("0:0=x+1=a@1");
        d.dueSolver(0, 5, 4, 2);
        d.x.set(BentWords.UP, 20);
        d.x.set(BentWords.DOWN, 50);
        d.answer("2:0=abc+1=a@1");
        d.dueSolver(2, 70, 1, 1);
        d.answer("2:0=x+1=a@1");
        d.dueSolver(2, 20, 2, 1);
    }

    private static void answerAgreed() {
        d.on("5 answer, agreed on");
        d.x.set(BentWords.EARLY, 1);
        d.x.set(BentWords.UP, 0);
        d.know("abc", 0);
        d.x.add(1);
        d.x.trust(0, 100);
        d.x.trust(1, 9);
        d.x.trust(2, 1);
        d.due("100 of 110", d.answer("0:0=abc+1=q@5"), 1);
        d.due("109 of 110", d.answer("1:0=abc+1=q@5"), 1);
        d.due("110 of 110", d.answer("2:0=abc+1=q@5"), 2);
        d.dueWord(1, 2, 1, 3, 1, 110, 110, 5, 0, 1, 'q', BentWords.NONE);
        d.dueCount(13, 0);
        d.dueCount(14, 1);

        d.on("5 answer needs its lead");
        d.x.set(BentWords.EARLY, 0);
        d.x.set(BentWords.UP, 0);
        d.know("abc", 0);
        d.x.add(0);
        d.x.trust(0, 100);
        d.x.trust(1, 71);
        d.x.trust(2, 1);
        d.due("71", d.answer("1:0=abc+1=b@5"), 1);
        d.due("100 against 71", d.answer("0:0=abc+1=a@5"), 1);
        d.dueWord(1, 1, 0, 2, 2, 100, 29, 5);
        d.due("101 against 71", d.answer("2:0=abc+1=a@5"), 2);
        d.dueWord(1, 2, 0, 3, 2, 101, 30, 5, 0, 1, 'a');

        d.on("5 answer, agreed on for another answer's vote");
        d.x.set(BentWords.EARLY, 0);
        d.x.set(BentWords.LEAD, 200);
        d.x.set(BentWords.UP, 0);
        d.know("abc", 0);
        d.x.add(0);
        d.x.trust(0, 100);
        d.x.trust(1, 1);
        d.answer("0:0=abc+1=first@5");
        d.answer("0:0=abc+1=other@5");
        d.x.set(BentWords.LEAD, 0);
        d.due("a vote for a third one", d.answer("1:0=abc+1=third@5"), 2);
        d.dueWord(1, 2, 0, 3, 3, 100, 0, 5, 0, 5, 'f', 'i', 'r', 's', 't');
    }

    private static void answerTooSoon() {
        d.on("5 answer, too few votes");
        d.know("abc", 0);
        d.x.add(0);
        d.x.set(BentWords.AGREE, 50);
        d.x.set(BentWords.EARLY, 1);
        d.due("one vote", d.answer("0:0=abc+1=q@9"), 3);
        d.dueWord(1, 3, 0, 1, 1, 50, 50, 9, 0, BentWords.NONE, BentWords.NONE);
        d.dueVote(1, 0, 1, 50, 0, 1, 'q');
        d.dueCount(13, 1);
        d.dueCount(14, 0);
        d.due("a vote for a retired one", d.answer("0:0=abc+1=q@9"), BentWords.NOT_POSSIBLE);
        d.due("a retired one as the known one", d.answer("0:1=q+1=q@9"), BentWords.NOT_POSSIBLE);
        d.due("lacking(1)", d.x.lacking(1), BentWords.NOT_POSSIBLE);

        d.on("5 answer, votes in all count");
        d.know("abc", 0);
        d.x.add(0);
        d.x.trust(5, 30);
        d.answer("5:0=abc+1=q@9");
        d.due("55 against 30", d.answer("0:0=abc+1=r@9"), 1);
        d.due("three votes", d.answer("0:0=abc+1=r@9"), 2);

        int[][] fast = {{4, 5, 5, 3}, {1, 1, 12, 3}, {4, 5, 6, 2}, {12, 1, 2, 2}};
        for (int[] times : fast) {
            d.on("5 answer, in " + times[0] + ", " + times[1] + " and " + times[2] + " seconds");
            d.x.set(BentWords.AGREE, 150);
            d.know("abc", 0);
            d.x.add(0);
            d.due("the first", d.answer("0:0=abc+1=q@" + times[0]), 1);
            d.due("the second", d.answer("1:0=abc+1=q@" + times[1]), 1);
            d.due("the third", d.answer("2:0=abc+1=q@" + times[2]), times[3]);
        }
        d.on("5 answer, FAST 0 is never too fast");
        d.x.set(BentWords.EARLY, 0);
        d.x.set(BentWords.FAST, 0);
        d.x.set(BentWords.AGREE, 10);
        d.know("abc", 0);
        d.x.add(0);
        d.due("in 1 second", d.answer("0:0=abc+1=q@1"), 2);
        d.on("5 answer, FAST 60");
        d.x.set(BentWords.EARLY, 0);
        d.x.set(BentWords.FAST, 60);
        d.x.set(BentWords.AGREE, 10);
        d.know("abc", 0);
        d.x.add(0);
        d.x.add(0);
        d.due("in 59 seconds", d.answer("0:0=abc+1=q@59"), 3);
        d.due("in 60 seconds", d.answer("0:0=abc+2=q@60"), 2);
    }

    private static void solvedWordsServe() {
        d.on("5 answer, solved words serve as known ones");
        d.x.set(BentWords.EARLY, 0);
        d.x.set(BentWords.AGREE, 10);
        d.know("abc", 0);
        d.x.add(0);
        d.x.add(9);
        d.due("solving", d.answer("0:0=abc+1=qrs@9"), 2);
        d.due("right", d.answer("1:1=qrs+2=v@9"), 1);
        d.due("wrong", d.answer("1:1=abc+2=v@9"), 1);
        d.dueWord(1, 2, 0, 1, 1, 50, 50, 9, 1, 3, 'q', 'r', 's');
        d.dueWord(2, 1, 9, 1, 1, 50, 50, 9, 0);
        d.due("a vote for a solved one", d.answer("1:0=abc+1=v@9"), BentWords.NOT_POSSIBLE);
        d.due("letters of another word", d.answer("1:0=qrs+2=v@9"), 1);
        d.dueWord(0, 0, 0, 0, 0, 0, 0, 0, 1);
    }

    private static void allWords() {
        d.on("5 answer, of each word");
        for (int i = 0; i < 12; i++) {
            d.due("a word", i % 2 == 0 ? d.know("k" + (char) ('a' + i), 0) : d.x.add(9), i);
        }
        for (int i = 0; i < 12; i += 2) {
            String text = "0:" + i + "=k" + (char) ('a' + i) + "+" + (11 - i) + "=u" + (char) ('a' + i) + "@" + (10 + i);
            d.due("answer of " + text, d.answer(text), 1);
            d.dueWord(11 - i, 1, 9, 1, 1, 50 + 5 * i / 2, 50 + 5 * i / 2, 10 + i, 0);
            d.dueVote(11 - i, 0, 1, 50 + 5 * i / 2, 0, 2, 'u', 'a' + i);
        }
        d.answer("1:10=x+11=a@9");
        d.due("word(10, 7)", d.x.word(10, 7), 1);
        d.dueSolver(0, 80, 6, 6);
    }

    /** 3 calls, and 3 for each answer; two are left of 512 for the looks. */
    private static void mostUnlikeAnswers() {
        d.on("5 answer, as many unlike ones as 512 calls can give");
        d.x.put(Due.packed("a"));
        d.x.know(0);
        d.x.add(0);
        for (int i = 0; i < 169; i++) {
            String letters = "" + (char) ('a' + i / 26) + (char) ('a' + i % 26);
            d.x.put(Due.packed("0:0=a+1="));
            d.x.put(Due.packed(letters + "@7"));
            d.due("an answer of " + letters, d.x.answer(), 1);
        }
        d.due("word(1, 3)", d.x.word(1, 3), 169);
        d.due("vote(1, 168, 1)", d.x.vote(1, 168, 1), 100);
    }

    private static void bend() {
        d.on("6 bend");
        d.due("bend(0, 0)", d.x.bend(0, 0), BentWords.NO_SUCH);
        d.due("bend(-1, 0)", d.x.bend(-1, 0), BentWords.NO_SUCH);
        d.due("bend(0, 10) without a word", d.x.bend(0, 10), BentWords.NO_SUCH);
        d.know("abc", 0);
        d.x.add(3);
        d.due("bend(0, 10)", d.x.bend(0, 10), BentWords.BAD_VALUE);
        d.due("bend(0, -1)", d.x.bend(0, -1), BentWords.BAD_VALUE);
        d.due("bend(0, 0) of a known one", d.x.bend(0, 0), BentWords.NOT_POSSIBLE);
        d.dueCount(17, 2);
        d.answer("0:0=abc+1=a@9");
        d.x.add(0);
        d.answer("0:0=abc+2=b@9");
        d.due("bend(1, 9)", d.x.bend(1, 9), 1);
        d.dueWord(1, 1, 9, 0, 0, 0, 0, 0, 0, BentWords.NONE);
        d.due("vote(1, 0, 0)", d.x.vote(1, 0, 0), BentWords.NO_SUCH);
        d.dueWord(2, 1, 0, 1, 1, 55, 55, 9);
        d.dueVote(2, 0, 1, 55, 0, 1, 'b');
        d.dueCount(17, 6);

        d.on("6 bend of the word that was voted for second");
        d.know("abc", 0);
        d.x.add(9);
        d.x.add(9);
        d.answer("0:0=abc+1=stays@9");
        d.answer("0:0=abc+2=goes@9");
        d.answer("0:0=abc+1=too@9");
        d.due("bend(2, 9)", d.x.bend(2, 9), 1);
        d.dueWord(1, 1, 9, 2, 2, 60, 10, 9, 0);
        d.dueVote(1, 0, 1, 50, 1, 5, 's', 't', 'a', 'y', 's');
        d.dueVote(1, 1, 1, 60, 0, 3, 't', 'o', 'o');
        d.dueWord(2, 1, 9, 0, 0, 0, 0, 0, 0);

        d.on("6 bend of a solved and of a retired one");
        d.x.set(BentWords.EARLY, 0);
        d.x.set(BentWords.AGREE, 10);
        d.know("abc", 0);
        d.x.add(0);
        d.x.add(0);
        d.answer("0:0=abc+1=a@9");
        d.answer("0:0=abc+2=a@1");
        d.x.add(0);
        d.answer("0:1=b+3=a@1");
        d.dueWord(1, 2, 0, 1, 1, 50, 50, 9, 1, 1);
        d.due("bend(1, 0) of a solved one", d.x.bend(1, 0), 2);
        d.dueWord(1, 1, 0, 0, 0, 0, 0, 0, 0, BentWords.NONE, BentWords.NONE);
        d.due("bend(2, 4) of a retired one", d.x.bend(2, 4), 3);
        d.dueWord(2, 1, 4, 0, 0, 0, 0, 0, 0, BentWords.NONE);
        d.dueCount(13, 1);
        d.dueCount(14, 1);
        d.due("a new vote", d.answer("0:0=abc+1=c@9"), 2);
        d.dueWord(1, 2, 0, 1, 1, 50, 50, 9, 0, 1, 'c');
    }

    private static void drop() {
        d.on("7 drop");
        d.due("drop(0)", d.x.drop(0), BentWords.NO_SUCH);
        d.due("drop(-1)", d.x.drop(-1), BentWords.NO_SUCH);
        d.x.set(BentWords.EARLY, 0);
        d.know("abc", 1);
        d.x.add(2);
        d.know("de", 3);
        d.x.add(4);
        d.x.add(5);
        d.answer("0:0=abc+1=a@9");
        d.answer("0:0=abc+3=b@8");
        d.answer("0:2=x+4=c@7");
        d.answer("0:0=abc+4=c@7");
        d.due("drop(5)", d.x.drop(5), BentWords.NO_SUCH);
        d.due("drop(1)", d.x.drop(1), 1);
        d.dueCount(6, 4);
        d.dueCount(17, 6);
        d.dueWord(0, 0, 1, 0, 0, 0, 0, 0, 0, 3);
        d.dueWord(1, 0, 3, 0, 0, 0, 0, 0, 1, 2, 'd', 'e');
        d.dueWord(2, 1, 4, 1, 1, 55, 55, 8, 0);
        d.dueWord(3, 1, 5, 1, 1, 50, 50, 7, 0);
        d.dueVote(2, 0, 1, 55, 0, 1, 'b');
        d.dueVote(3, 0, 1, 50, 0, 1, 'c');
        d.due("word(4, 0)", d.x.word(4, 0), BentWords.NO_SUCH);
        d.due("a new word behind it", d.x.add(0), 4);
        d.dueWord(4, 1, 0, 0, 0, 0, 0, 0, 0);
        d.due("vote(4, 0, 0)", d.x.vote(4, 0, 0), BentWords.NO_SUCH);
        d.due("drop(0) of a known one", d.x.drop(0), 0);
        d.due("drop(3), the last one", d.x.drop(3), 1);
        d.dueCount(11, 4);

        d.on("7 drop of a solved and of a retired one");
        d.x.set(BentWords.EARLY, 0);
        d.x.set(BentWords.AGREE, 10);
        d.know("abc", 0);
        d.x.add(0);
        d.x.add(0);
        d.answer("0:0=abc+1=a@9");
        d.answer("0:0=abc+2=a@1");
        d.due("drop(1)", d.x.drop(1), 2);
        d.due("drop(1)", d.x.drop(1), 3);
        d.dueCount(13, 1);
        d.dueCount(14, 1);
    }

    private static void dropForgetsTheVotes() {
        d.on("7 drop of what was voted for");
        d.know("abc", 0);
        d.x.add(9);
        d.x.add(9);
        d.answer("0:0=abc+1=gone@9");
        d.answer("0:0=abc+1=gone@9");
        d.answer("0:0=abc+1=gone@9");
        d.answer("1:0=abc+2=stays@9");
        d.answer("1:0=abc+2=stays@9");
        d.x.drop(1);
        d.dueWord(1, 1, 9, 2, 1, 105, 105, 9, 0);
        d.dueVote(1, 0, 2, 105, 0, 5, 's', 't', 'a', 'y', 's');
        d.x.add(9);
        d.due("vote(2, 0, 0)", d.x.vote(2, 0, 0), BentWords.NO_SUCH);
        d.answer("2:0=abc+2=gone@9");
        d.dueVote(2, 0, 1, 50, 0, 4, 'g', 'o', 'n', 'e');
        d.dueWord(2, 1, 9, 1, 1, 50, 50, 9, 0);
        d.x.drop(1);
        d.x.drop(1);
        d.x.drop(0);
        d.dueCount(6, 0);
        d.due("a word 0", d.x.add(9), 0);
        d.due("vote(0, 0, 0)", d.x.vote(0, 0, 0), BentWords.NO_SUCH);
        d.know("abc", 0);
        d.answer("3:1=abc+0=first@9");
        d.dueVote(0, 0, 1, 50, 0, 5);
        d.x.drop(0);
        d.x.add(9);
        d.due("vote(1, 0, 0)", d.x.vote(1, 0, 0), BentWords.NO_SUCH);
        d.due("vote(0, 0, 0) of a known one", d.x.vote(0, 0, 0), BentWords.NO_SUCH);
    }

    private static void trust() {
        d.on("8 trust");
        d.due("trust(-1, 0)", d.x.trust(-1, 0), BentWords.NO_SUCH);
        d.due("trust(6, 0)", d.x.trust(6, 0), BentWords.NO_SUCH);
        d.due("trust(6, 101)", d.x.trust(6, 101), BentWords.NO_SUCH);
        d.due("trust(0, -1)", d.x.trust(0, -1), BentWords.BAD_VALUE);
        d.due("trust(0, 101)", d.x.trust(0, 101), BentWords.BAD_VALUE);
        d.dueCount(17, 0);
        d.due("trust(0, 0)", d.x.trust(0, 0), 50);
        d.due("trust(0, 100)", d.x.trust(0, 100), 0);
        d.due("trust(5, 7)", d.x.trust(5, 7), 50);
        d.dueSolver(0, 100, 0, 0, 0, 0);
        d.dueSolver(5, 7, 0, 0, 5, 0);
        d.dueCount(15, 307);
        d.dueCount(17, 3);
    }
}
