/** Promises 13 to 17: what if. */
public final class WhatIfTest {
    private static final Due d = new Due();

    public static void main(String[] args) {
        lacking();
        answersFor();
        ifVoted();
        mostMissed();
        nearest();
        d.end();
    }

    private static void lacking() {
        d.on("13 lacking");
        d.due("lacking(-1)", d.x.lacking(-1), BentWords.NO_SUCH);
        d.due("lacking(0)", d.x.lacking(0), BentWords.NO_SUCH);
        d.know("cat", 0);
        d.x.add(3);
        d.due("lacking(0) of a known one", d.x.lacking(0), BentWords.NOT_POSSIBLE);
        d.due("lacking(1)", d.x.lacking(1), 130);
        d.x.set(BentWords.LEAD, 131);
        d.due("lacking(1) of LEAD", d.x.lacking(1), 131);
        d.x.set(BentWords.LEAD, 30);
        d.answer("0:0=cat+1=a@9");
        d.due("lacking(1) behind 50", d.x.lacking(1), 80);
        d.answer("1:0=cat+1=b@9");
        d.x.trust(2, 60);
        d.answer("2:0=cat+1=b@9");
        d.due("lacking(1) behind 50 and 110", d.x.lacking(1), 20);
        d.answer("2:0=cat+1=a@9");
        d.due("lacking(1) behind 115 and 110", d.x.lacking(1), 25);
        d.x.set(BentWords.AGREE, 10);
        d.x.set(BentWords.LEAD, 6);
        d.due("lacking(1) of a lead of 1", d.x.lacking(1), 1);
        d.x.set(BentWords.LEAD, 5);
        d.due("lacking(1) of nothing", d.x.lacking(1), 0);
        d.x.set(BentWords.LEAD, 0);
        d.due("lacking(1) of nothing, with more", d.x.lacking(1), 0);
        d.answer("3:0=cat+1=c@9");
        d.due("lacking(1) of a solved one", d.x.lacking(1), BentWords.NOT_POSSIBLE);
        d.x.set(BentWords.EARLY, 9);
        d.x.add(0);
        d.answer("3:0=cat+2=c@9");
        d.dueWord(2, 3);
        d.due("lacking(2) of a retired one", d.x.lacking(2), BentWords.NOT_POSSIBLE);
    }

    private static void answersFor() {
        d.on("14 answersFor");
        d.due("answersFor(0, 0)", d.x.answersFor(0, 0), BentWords.NO_SUCH);
        d.know("cat", 0);
        d.x.add(0);
        d.due("answersFor(-1, 1)", d.x.answersFor(-1, 1), BentWords.NO_SUCH);
        d.due("answersFor(6, 1)", d.x.answersFor(6, 1), BentWords.NO_SUCH);
        d.due("answersFor(0, 2)", d.x.answersFor(0, 2), BentWords.NO_SUCH);
        d.due("answersFor(0, -1)", d.x.answersFor(0, -1), BentWords.NO_SUCH);
        d.due("answersFor(6, 0)", d.x.answersFor(6, 0), BentWords.NO_SUCH);
        d.due("answersFor(0, 0) of a known one", d.x.answersFor(0, 0), BentWords.NOT_POSSIBLE);
        d.due("answersFor(0, 1): 50, 55", d.x.answersFor(0, 1), 2);
        d.x.trust(0, 47);
        d.due("answersFor(0, 1): 47, 52", d.x.answersFor(0, 1), 3);
        d.x.trust(0, 48);
        d.due("answersFor(0, 1): 48, 53", d.x.answersFor(0, 1), 2);
        d.x.trust(0, 0);
        d.due("answersFor(0, 1): 0, 5, 10, 15, 20, 25, 30", d.x.answersFor(0, 1), 7);
        d.x.trust(0, 100);
        d.due("answersFor(0, 1): 100", d.x.answersFor(0, 1), 1);
        d.x.set(BentWords.AGREE, 300);
        d.x.trust(0, 99);
        d.due("answersFor(0, 1): 99, 100, 100, and one more", d.x.answersFor(0, 1), 4);

        d.on("14 answersFor, 100 and more");
        d.x.add(0);
        d.x.set(BentWords.UP, 0);
        d.x.trust(0, 1);
        d.due("answersFor(0, 0): 100 of 1", d.x.answersFor(0, 0), 100);
        d.x.set(BentWords.AGREE, 101);
        d.due("answersFor(0, 0): 101 of 1", d.x.answersFor(0, 0), BentWords.NONE);
        d.x.trust(0, 0);
        d.due("answersFor(0, 0): of 0", d.x.answersFor(0, 0), BentWords.NONE);

        d.on("14 answersFor, a lead to catch up on");
        d.know("cat", 0);
        d.x.add(0);
        d.x.set(BentWords.AGREE, 400);
        d.answer("0:0=cat+1=a@9");
        d.answer("1:0=cat+1=b@9");
        d.answer("1:0=cat+1=b@9");
        d.x.set(BentWords.AGREE, 10);
        d.x.set(BentWords.LEAD, 120);
        d.x.trust(2, 30);
        d.due("answersFor(2, 1): 30, 35 on 55", d.x.answersFor(2, 1), 2);
        d.x.set(BentWords.LEAD, 0);
        d.due("answersFor(2, 1) that lacks nothing", d.x.answersFor(2, 1), 1);
        d.x.trust(2, 0);
        d.due("answersFor(2, 1) that lacks nothing, without trust", d.x.answersFor(2, 1), 1);
        d.answer("2:0=cat+1=a@9");
        d.dueWord(1, 2);
        d.due("answersFor(2, 1) of a solved one", d.x.answersFor(2, 1), BentWords.NOT_POSSIBLE);
    }

    private static void ifVoted() {
        d.on("15 ifVoted");
        d.due("ifVoted(0, 0, 1)", d.x.ifVoted(0, 0, 1), BentWords.NO_SUCH);
        d.know("cat", 0);
        d.x.add(0);
        d.due("ifVoted(-1, 1, 0)", d.x.ifVoted(-1, 1, 0), BentWords.NO_SUCH);
        d.due("ifVoted(6, 1, 9)", d.x.ifVoted(6, 1, 9), BentWords.NO_SUCH);
        d.due("ifVoted(0, 2, 61)", d.x.ifVoted(0, 2, 61), BentWords.NO_SUCH);
        d.due("ifVoted(0, -1, 9)", d.x.ifVoted(0, -1, 9), BentWords.NO_SUCH);
        d.due("ifVoted(0, 1, 0)", d.x.ifVoted(0, 1, 0), BentWords.BAD_VALUE);
        d.due("ifVoted(0, 1, 61)", d.x.ifVoted(0, 1, 61), BentWords.BAD_VALUE);
        d.due("ifVoted(0, 0, 61) of a known one", d.x.ifVoted(0, 0, 61), BentWords.BAD_VALUE);
        d.due("ifVoted(0, 0, 60) of a known one", d.x.ifVoted(0, 0, 60), BentWords.NOT_POSSIBLE);
        d.due("ifVoted(0, 1, 60) without votes", d.x.ifVoted(0, 1, 60), BentWords.NOT_POSSIBLE);
        d.answer("0:0=cat+1=a@5");
        d.x.trust(1, 49);
        d.due("ifVoted(1, 1, 9) of 49", d.x.ifVoted(1, 1, 9), 1);
        d.due("ifVoted(2, 1, 9) of 50", d.x.ifVoted(2, 1, 9), 3);
        d.x.set(BentWords.EARLY, 1);
        d.due("ifVoted(2, 1, 9) of 50 behind EARLY", d.x.ifVoted(2, 1, 9), 2);
        d.due("ifVoted(2, 1, 5)", d.x.ifVoted(2, 1, 5), 2);
        d.due("ifVoted(2, 1, 4)", d.x.ifVoted(2, 1, 4), 3);
        d.due("ifVoted(1, 1, 1)", d.x.ifVoted(1, 1, 1), 1);
        d.x.set(BentWords.LEAD, 100);
        d.due("ifVoted(2, 1, 60) of a lead of 100", d.x.ifVoted(2, 1, 60), 2);
        d.x.set(BentWords.LEAD, 101);
        d.due("ifVoted(2, 1, 60) of a lead of 101", d.x.ifVoted(2, 1, 60), 1);
        d.x.set(BentWords.LEAD, 30);
        d.answer("2:0=cat+1=a@5");
        d.dueWord(1, 2);
        d.due("ifVoted(2, 1, 60) of a solved one", d.x.ifVoted(2, 1, 60), BentWords.NOT_POSSIBLE);
        d.x.add(0);
        d.x.set(BentWords.AGREE, 10);
        d.answer("2:0=cat+2=a@1");
        d.dueWord(2, 3);
        d.due("ifVoted(2, 2, 60) of a retired one", d.x.ifVoted(2, 2, 60), BentWords.NOT_POSSIBLE);
    }

    private static void mostMissed() {
        d.on("16 mostMissed");
        d.due("mostMissed()", d.x.mostMissed(), BentWords.NONE);
        d.x.set(BentWords.EARLY, 0);
        d.x.set(BentWords.AGREE, 10);
        d.know("cat", 0);
        d.know("dog", 0);
        d.x.add(9);
        d.x.add(0);
        d.x.trust(0, 100);
        d.due("mostMissed() of none missed", d.x.mostMissed(), BentWords.NONE);
        d.answer("1:1=x+2=a@9");
        d.due("mostMissed() of one", d.x.mostMissed(), 1);
        d.answer("1:0=x+2=a@9");
        d.due("mostMissed() of several", d.x.mostMissed(), 0);
        d.due("solving", d.answer("0:1=dog+3=a@9"), 2);
        d.answer("1:3=x+2=a@9");
        d.due("mostMissed() of three", d.x.mostMissed(), 0);
        d.answer("1:3=x+2=a@9");
        d.due("mostMissed() of a solved one", d.x.mostMissed(), 3);
        d.x.bend(3, 0);
        d.due("mostMissed() behind bend", d.x.mostMissed(), 0);
        d.x.drop(0);
        d.due("mostMissed() behind drop", d.x.mostMissed(), 0);
        d.x.drop(0);
        d.due("mostMissed() behind a second drop", d.x.mostMissed(), BentWords.NONE);
    }

    private static void nearest() {
        d.on("17 nearest");
        d.due("nearest()", d.x.nearest(), BentWords.NONE);
        d.know("cat", 0);
        d.due("nearest() of a known one", d.x.nearest(), BentWords.NONE);
        d.x.add(2);
        d.x.add(1);
        d.x.add(1);
        d.x.add(9);
        d.due("nearest() of several", d.x.nearest(), 2);
        d.x.trust(0, 100);
        d.answer("0:0=cat+4=a@9");
        d.due("nearest() by votes", d.x.nearest(), 4);
        d.x.set(BentWords.LEAD, 200);
        d.due("nearest() by lead", d.x.nearest(), 4);
        d.answer("0:0=cat+4=b@9");
        d.due("nearest() by lead, with all the same", d.x.nearest(), 1);
        d.x.set(BentWords.LEAD, 0);
        d.x.set(BentWords.AGREE, 10);
        d.due("nearest() of bend 1", d.x.nearest(), 4);
        d.x.trust(1, 20);
        d.due("retiring", d.answer("1:0=cat+2=a@9"), 3);
        d.x.drop(4);
        d.due("nearest() without the retired one", d.x.nearest(), 3);
        d.x.set(BentWords.LEAD, 10);
        d.x.set(BentWords.AGREE, 400);
        d.x.trust(2, 0);
        d.answer("2:0=cat+1=z@9");
        d.due("nearest() with a vote of weight 0", d.x.nearest(), 3);
        d.x.drop(3);
        d.due("nearest() of one", d.x.nearest(), 1);
        d.x.drop(0);
        d.due("nearest() of word 0", d.x.nearest(), 0);
        d.x.set(BentWords.AGREE, 10);
        d.x.set(BentWords.LEAD, 0);
        d.x.add(0);
        d.due("nearest() of word 2", d.x.nearest(), 2);
    }
}
