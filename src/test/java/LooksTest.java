/** Promises 9 to 12: what there is. */
public final class LooksTest {
    private static final Due d = new Due();

    public static void main(String[] args) {
        word();
        vote();
        solver();
        count();
        nothingChanges();
        d.end();
    }

    private static void word() {
        d.on("9 word");
        d.due("word(0, 0)", d.x.word(0, 0), BentWords.NO_SUCH);
        d.due("word(0, -1) without a word", d.x.word(0, -1), BentWords.NO_SUCH);
        d.know("cat", 3);
        d.x.add(4);
        d.due("word(-1, 0)", d.x.word(-1, 0), BentWords.NO_SUCH);
        d.due("word(2, 0)", d.x.word(2, 0), BentWords.NO_SUCH);
        d.due("word(MIN, 0)", d.x.word(Integer.MIN_VALUE, 0), BentWords.NO_SUCH);
        d.due("word(MAX, 0)", d.x.word(Integer.MAX_VALUE, 0), BentWords.NO_SUCH);
        d.due("word(0, -1)", d.x.word(0, -1), BentWords.BAD_VALUE);
        d.due("word(1, MIN)", d.x.word(1, Integer.MIN_VALUE), BentWords.BAD_VALUE);
        d.dueWord(0, 0, 3, 0, 0, 0, 0, 0, 0, 3, 'c', 'a', 't', BentWords.NONE);
        d.due("word(0, MAX)", d.x.word(0, Integer.MAX_VALUE), BentWords.NONE);
        d.dueWord(1, 1, 4, 0, 0, 0, 0, 0, 0, BentWords.NONE, BentWords.NONE);
        d.due("word(1, MAX)", d.x.word(1, Integer.MAX_VALUE), BentWords.NONE);

        d.answer("0:0=cat+1=a@2");
        d.answer("1:0=cat+1=b@3");
        d.dueWord(1, 1, 4, 2, 2, 50, 0, 2, 0, BentWords.NONE);
        d.answer("1:0=cat+1=b@4");
        d.dueWord(1, 1, 4, 3, 2, 105, 55, 3, 0);
        d.answer("2:0=cat+1=c@4");
        d.dueWord(1, 1, 4, 4, 3, 105, 55, 3, 0);
        d.answer("2:0=cat+1=c@60");
        d.dueWord(1, 1, 4, 5, 3, 105, 0, 14, 0);
        d.answer("2:0=cot+1=c@60");
        d.dueWord(0, 0, 3, 0, 0, 0, 0, 0, 1);

        d.on("9 word, with all letters");
        String[] words = {"abcdef", "zyxwvu", "aaaaaa", "zzzzzz", "a", "z", "ghijkl", "mnopqr", "st"};
        for (int i = 0; i < words.length; i++) {
            d.due("know of " + words[i], d.know(words[i], 0), i);
            d.due("its letters", d.x.word(i, 8), words[i].length());
            for (int k = 0; k < words[i].length(); k++) {
                d.due("letter " + k + " of " + words[i], d.x.word(i, 9 + k), words[i].charAt(k));
            }
            d.due("behind " + words[i], d.x.word(i, 9 + words[i].length()), BentWords.NONE);
        }
    }

    private static void vote() {
        d.on("10 vote");
        d.due("vote(0, 0, 0)", d.x.vote(0, 0, 0), BentWords.NO_SUCH);
        d.know("cat", 0);
        d.x.add(9);
        d.x.add(9);
        d.x.set(BentWords.UP, 0);
        d.due("vote(1, 0, 0)", d.x.vote(1, 0, 0), BentWords.NO_SUCH);
        d.due("vote(0, 0, 0) of a known one", d.x.vote(0, 0, 0), BentWords.NO_SUCH);
        d.x.trust(0, 20);
        d.x.trust(1, 40);
        d.answer("0:0=cat+1=one@9");
        d.answer("1:0=cat+2=elsewh@9");
        d.answer("1:0=cat+1=two@9");
        d.answer("0:0=cat+1=three@9");
        d.due("vote(1, 3, 0)", d.x.vote(1, 3, 0), BentWords.NO_SUCH);
        d.due("vote(1, -1, 0)", d.x.vote(1, -1, 0), BentWords.NO_SUCH);
        d.due("vote(1, 3, -1)", d.x.vote(1, 3, -1), BentWords.NO_SUCH);
        d.due("vote(1, 0, -1)", d.x.vote(1, 0, -1), BentWords.BAD_VALUE);
        d.due("vote(1, 0, MIN)", d.x.vote(1, 0, Integer.MIN_VALUE), BentWords.BAD_VALUE);
        d.due("vote(1, 0, MAX)", d.x.vote(1, 0, Integer.MAX_VALUE), BentWords.NONE);
        d.dueVote(1, 0, 1, 20, 1, 3, 'o', 'n', 'e', BentWords.NONE);
        d.dueVote(1, 1, 1, 40, 0, 3, 't', 'w', 'o', BentWords.NONE);
        d.dueVote(1, 2, 1, 20, 2, 5, 't', 'h', 'r', 'e', 'e', BentWords.NONE);
        d.dueVote(2, 0, 1, 40, 0, 6, 'e', 'l', 's', 'e', 'w', 'h', BentWords.NONE);
        d.answer("0:0=cat+1=three@9");
        d.dueVote(1, 0, 1, 20, 2);
        d.dueVote(1, 1, 1, 40, 0);
        d.dueVote(1, 2, 2, 40, 1);
        d.answer("0:0=cat+1=three@9");
        d.dueVote(1, 1, 1, 40, 1);
        d.dueVote(1, 2, 3, 60, 0);
    }

    private static void solver() {
        d.on("11 solver");
        d.due("solver(-1, 0)", d.x.solver(-1, 0), BentWords.NO_SUCH);
        d.due("solver(6, 0)", d.x.solver(6, 0), BentWords.NO_SUCH);
        d.due("solver(6, 5)", d.x.solver(6, 5), BentWords.NO_SUCH);
        d.due("solver(0, -1)", d.x.solver(0, -1), BentWords.BAD_VALUE);
        d.due("solver(0, 5)", d.x.solver(0, 5), BentWords.BAD_VALUE);
        d.x.trust(4, 70);
        d.x.trust(2, 50);
        d.x.trust(1, 10);
        d.x.trust(0, 10);
        int[] places = {4, 5, 1, 2, 0, 3};
        for (int i = 0; i < 6; i++) {
            d.due("solver(" + i + ", 3)", d.x.solver(i, 3), places[i]);
        }
        d.x.trust(3, 51);
        d.due("solver(3, 3) of 51", d.x.solver(3, 3), 1);
        d.due("solver(2, 3) of 50", d.x.solver(2, 3), 2);
        d.x.trust(3, 50);
        d.know("cat", 0);
        d.x.add(9);
        d.answer("3:0=cat+1=a@1");
        d.answer("3:0=cat+1=a@2");
        d.answer("3:0=cow+1=a@60");
        d.dueSolver(3, 50, 3, 2, 2, 21);
        d.answer("3:0=cow+1=a@2");
        d.dueSolver(3, 40, 4, 2, 3, 16);
        d.dueSolver(4, 70, 0, 0, 0, 0);
    }

    private static void count() {
        d.on("12 count");
        d.due("count(-1)", d.x.count(-1), BentWords.BAD_VALUE);
        d.due("count(18)", d.x.count(18), BentWords.BAD_VALUE);
        d.due("count(MIN)", d.x.count(Integer.MIN_VALUE), BentWords.BAD_VALUE);
        d.due("count(MAX)", d.x.count(Integer.MAX_VALUE), BentWords.BAD_VALUE);
        d.x.set(BentWords.AGREE, 50);
        d.x.set(BentWords.LEAD, 31);
        d.x.set(BentWords.EARLY, 0);
        d.x.set(BentWords.FAST, 6);
        d.x.set(BentWords.UP, 7);
        d.x.set(BentWords.DOWN, 8);
        d.know("cat", 0);
        for (int i = 0; i < 6; i++) {
            d.x.add(0);
        }
        d.answer("0:0=cat+1=a@6");
        d.answer("0:0=cat+2=a@5");
        d.answer("0:0=cat+3=a@5");
        d.answer("1:0=cow+4=a@5");
        d.answer("1:0=cow+4=a@5");
        d.pad("abc");
        int[] wanted = {50, 31, 0, 6, 7, 8, 7, 1, 3, 1, 2, 5, 3, 2, 1, 50 + 21 + 50 - 16 + 200, 3, 6};
        for (int what = 0; what < wanted.length; what++) {
            d.dueCount(what, wanted[what]);
        }
        d.x.drop(1);
        d.x.bend(1, 0);
        d.x.drop(2);
        int[] behind = {50, 31, 0, 6, 7, 8, 5, 1, 4, 0, 0, 5, 3, 2, 1, 305, 3, 6};
        for (int what = 0; what < behind.length; what++) {
            d.dueCount(what, behind[what]);
        }
    }

    private static void nothingChanges() {
        d.on("9 to 17, 20: looks change nothing");
        d.know("cat", 0);
        d.x.add(0);
        d.answer("0:0=cat+1=a@6");
        d.pad("0:0=cat+1=a@6");
        for (int round = 0; round < 2; round++) {
            d.dueWord(1, 1, 0, 1, 1, 50, 50, 6, 0, BentWords.NONE);
            d.dueVote(1, 0, 1, 50, 0, 1, 'a');
            d.dueSolver(0, 55, 1, 1, 0, 6);
            d.dueCount(17, 3);
            d.dueCount(16, 13);
            d.due("lacking(1)", d.x.lacking(1), 50);
            d.due("answersFor(1, 1)", d.x.answersFor(1, 1), 1);
            d.due("ifVoted(1, 1, 60)", d.x.ifVoted(1, 1, 60), 3);
            d.due("mostMissed()", d.x.mostMissed(), BentWords.NONE);
            d.due("nearest()", d.x.nearest(), 1);
            d.due("fault()", d.x.fault(), BentWords.NONE);
        }
        d.due("errors change nothing", d.x.know(0), BentWords.BAD_TEXT);
        d.dueCount(16, 13);
        d.dueCount(17, 3);
    }
}
