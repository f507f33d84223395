/** Promises 18 to 23: texts, undo and saving. */
public final class TextsAndSavingTest {
    private static final Due d = new Due();

    public static void main(String[] args) {
        put();
        wipe();
        faultAtEachPlace();
        faultOfShortTexts();
        undo();
        undoOfEachChange();
        saveAndRestore();
        d.end();
    }

    private static void put() {
        d.on("18 put");
        long[] bad = {0, 32, 127, 128, 255, -1, Long.MIN_VALUE, Long.MAX_VALUE, 0x6100, 0x610061, 0x6100000000000061L,
            0x6120, 0x2061, 0x7f61, 0x617f, 0xff61, 0x8061616161616161L, 0x2061616161616161L, 0x0061616161616120L, 0x0100000000000061L,
            0x0061006161616161L, 0x6100616161616161L};
        for (long characters : bad) {
            d.due("put(" + Long.toHexString(characters) + ")", d.x.put(characters), BentWords.BAD_VALUE);
        }
        d.dueCount(16, 0);
        d.due("put of !", d.x.put(33), 1);
        d.due("put of ~", d.x.put(126), 2);
        d.due("put of abc", d.x.put(0x616263), 5);
        d.dueCount(16, 5);
        d.dueCount(17, 0);
        for (int many = 1; many <= 8; many++) {
            d.x.wipe();
            d.due("put of " + many, d.x.put(Due.packed("abcdefgh".substring(0, many))), many);
        }
        d.on("18 put keeps the order");
        d.x.put(0x61);
        d.x.put(0x6263);
        d.x.put(0x646566);
        d.x.know(0);
        d.dueWord(0, 0, 0, 0, 0, 0, 0, 0, 0, 6, 'a', 'b', 'c', 'd', 'e', 'f');

        d.on("18 put, at most 60");
        for (int i = 1; i <= 7; i++) {
            d.due("put of 8", d.x.put(0x6161616161616161L), 8 * i);
        }
        d.due("put of 5", d.x.put(0x6161616161L), BentWords.TOO_MANY);
        d.due("put of 5 bad ones", d.x.put(0x2061616161L), BentWords.BAD_VALUE);
        d.dueCount(16, 56);
        d.due("put of 3", d.x.put(0x616161), 59);
        d.due("put of 2", d.x.put(0x6161), BentWords.TOO_MANY);
        d.due("put of 1", d.x.put(0x61), 60);
        d.due("put of 1", d.x.put(0x61), BentWords.TOO_MANY);
        d.due("put of 8", d.x.put(0x6161616161616161L), BentWords.TOO_MANY);
        d.due("put of none", d.x.put(0), BentWords.BAD_VALUE);
        d.dueCount(16, 60);
        d.due("fault()", d.x.fault(), 0);
        d.due("know(0)", d.x.know(0), BentWords.BAD_TEXT);
    }

    private static void wipe() {
        d.on("19 wipe");
        d.due("wipe()", d.x.wipe(), 0);
        d.x.put(Due.packed("abcde"));
        d.due("wipe()", d.x.wipe(), 5);
        d.dueCount(16, 0);
        d.due("wipe()", d.x.wipe(), 0);
        d.dueCount(17, 0);
        d.due("put of x", d.x.put('x'), 1);
        d.due("know(0)", d.x.know(0), 0);
        d.dueWord(0, 0, 0, 0, 0, 0, 0, 0, 0, 1, 'x');
    }

    /** Each text with the only characters that can stand behind it; "" where an answer may end, too. */
    private static final String[][] BEHIND = {
        {"", "012345"}, {"0", ":"}, {"5", ":"}, {"5:", "0123456789"},
        {"5:0", "="}, {"5:1", "=01"}, {"5:2", "="}, {"5:9", "="}, {"5:10", "="}, {"5:11", "="},
        {"5:1=", "a-z"}, {"5:1=a", "a-z+"}, {"5:1=ab", "a-z+"}, {"5:1=abcde", "a-z+"}, {"5:1=abcdef", "+"},
        {"5:1=z+", "0123456789"}, {"5:1=z+0", "="}, {"5:1=z+1", "=01"}, {"5:1=z+10", "="}, {"5:1=z+8", "="},
        {"5:1=z+0=", "a-z"}, {"5:1=z+0=a", "a-z@"}, {"5:1=z+0=abcde", "a-z@"}, {"5:1=z+0=abcdef", "@"},
        {"5:1=z+0=a@", "123456789"}, {"5:1=z+0=a@1", "0123456789"}, {"5:1=z+0=a@5", "0123456789"},
        {"5:1=z+0=a@6", "0"}, {"5:1=z+0=a@7", ""}, {"5:1=z+0=a@9", ""}, {"5:1=z+0=a@10", ""}, {"5:1=z+0=a@60", ""},
        {"5:10=abcdef+11=uvwxyz@59", ""},
    };

    private static void faultAtEachPlace() {
        for (String[] row : BEHIND) {
            d.on("20 fault");
            String text = row[0];
            String behind = row[1].replace("a-z", "abcdefghijklmnopqrstuvwxyz");
            boolean isWhole = text.indexOf('@') >= 0 && !text.endsWith("@");
            d.due("fault of " + text, d.fault(text), isWhole ? BentWords.NONE : text.length());
            for (char next = 33; next < 127; next++) {
                d.on("20 fault");
                int got = d.fault(text + next);
                if (behind.indexOf(next) < 0) {
                    d.due("fault of " + text + next, got, text.length());
                } else if (isWhole || text.endsWith("@")) {
                    d.due("fault of " + text + next, got, BentWords.NONE);
                } else {
                    d.due("fault of " + text + next, got, text.length() + 1);
                }
            }
        }
    }

    private static void faultOfShortTexts() {
        d.on("20 fault");
        String whole = "0:3=abc+11=defghi@42";
        for (int end = 0; end < whole.length() - 1; end++) {
            d.due("fault of " + whole.substring(0, end), d.fault(whole.substring(0, end)), end);
        }
        d.due("fault of " + whole, d.fault(whole), BentWords.NONE);
        for (int end = whole.length() - 2; end >= 0; end--) {
            d.due("fault of " + whole.substring(0, end) + ", behind a longer one", d.fault(whole.substring(0, end)), end);
        }
        d.on("20 fault, the first one");
        d.due("fault of two faults", d.fault("0:3=Abc+11=dEf@99"), 4);
        d.due("fault of what goes on", d.fault(whole + whole), whole.length());
        d.due("fault of a longest text", d.fault("012345678901234567890123456789012345678901234567890123456789"), 1);
        d.dueCount(16, 60);
        d.due("fault()", d.x.fault(), 1);
    }

    private static void undo() {
        d.on("21 undo");
        d.due("undo()", d.x.undo(), BentWords.NOT_POSSIBLE);
        for (int i = 0; i < 8; i++) {
            d.x.set(BentWords.AGREE, 101 + i);
            d.dueCount(17, Math.min(6, i + 1));
        }
        for (int i = 5; i >= 0; i--) {
            d.due("undo()", d.x.undo(), i);
            d.dueCount(0, 102 + i);
            d.dueCount(17, i);
        }
        d.due("a seventh undo()", d.x.undo(), BentWords.NOT_POSSIBLE);
        d.dueCount(0, 102);
        d.x.set(BentWords.AGREE, 50);
        d.due("undo()", d.x.undo(), 0);
        d.dueCount(0, 102);

        d.on("21 undo keeps the pad and the slots");
        d.know("cat", 0);
        d.x.save(0);
        d.x.add(0);
        d.x.save(1);
        d.pad("dog");
        d.due("undo()", d.x.undo(), 1);
        d.due("undo()", d.x.undo(), 0);
        d.dueCount(16, 3);
        d.dueCount(6, 0);
        d.due("restore(1)", d.x.restore(1), 2);
        d.due("restore(0)", d.x.restore(0), 1);
        d.due("undo()", d.x.undo(), 1);
        d.dueCount(6, 2);
        d.due("undo()", d.x.undo(), 0);
        d.dueCount(6, 0);
        d.dueCount(16, 3);
        d.due("know(0)", d.x.know(0), 0);
        d.due("undo()", d.x.undo(), 0);
        d.dueCount(16, 0);

        d.on("21 undo: errors and looks are no changes");
        d.x.add(0);
        d.x.add(10);
        d.x.set(0, 0);
        d.x.know(0);
        d.x.answer();
        d.x.bend(1, 0);
        d.x.drop(1);
        d.x.trust(0, 101);
        d.x.restore(0);
        d.x.put('a');
        d.x.wipe();
        d.x.save(0);
        d.x.fault();
        d.x.nearest();
        d.dueCount(17, 1);
    }

    private static void undoOfEachChange() {
        d.on("21 undo of each change");
        d.x.set(BentWords.EARLY, 0);
        d.x.set(BentWords.AGREE, 50);
        d.know("cat", 3);
        d.x.add(0);
        d.x.add(4);
        d.answer("0:0=cat+2=x@7");

        d.answer("0:0=cat+2=y@9");
        d.due("undo()", d.x.undo(), 5);
        d.dueWord(2, 1, 4, 1, 1, 50, 50, 7, 0);
        d.due("vote(2, 1, 0)", d.x.vote(2, 1, 0), BentWords.NO_SUCH);
        d.dueSolver(0, 55, 1, 1, 0, 7);

        d.answer("0:0=dog+2=y@9");
        d.due("undo()", d.x.undo(), 5);
        d.dueWord(0, 0, 3, 0, 0, 0, 0, 0, 0, 3, 'c', 'a', 't');
        d.dueSolver(0, 55, 1, 1, 0, 7);

        d.due("solving", d.answer("0:0=cat+1=y@9"), 2);
        d.due("undo()", d.x.undo(), 5);
        d.dueWord(1, 1, 0, 0, 0, 0, 0, 0, 0, BentWords.NONE);
        d.dueCount(14, 0);

        d.due("retiring", d.answer("0:0=cat+1=y@1"), 3);
        d.dueCount(13, 1);
        d.due("undo()", d.x.undo(), 5);
        d.dueWord(1, 1, 0, 0, 0, 0, 0, 0, 0, BentWords.NONE);
        d.dueCount(13, 0);

        d.x.bend(2, 9);
        d.due("undo()", d.x.undo(), 5);
        d.dueWord(2, 1, 4, 1, 1, 50, 50, 7, 0);
        d.dueVote(2, 0, 1, 50, 0, 1, 'x');

        d.x.drop(0);
        d.due("undo()", d.x.undo(), 5);
        d.dueWord(0, 0, 3, 0, 0, 0, 0, 0, 0, 3, 'c', 'a', 't');
        d.dueWord(2, 1, 4, 1, 1, 50, 50, 7, 0);
        d.dueVote(2, 0, 1, 50, 0, 1, 'x');
        d.dueCount(6, 3);

        d.x.trust(0, 3);
        d.due("undo()", d.x.undo(), 5);
        d.dueSolver(0, 55);

        d.know("dog", 0);
        d.due("undo()", d.x.undo(), 5);
        d.dueCount(6, 3);

        d.on("21 undo behind other votes at the same place");
        d.know("cat", 3);
        d.x.add(9);
        d.answer("0:0=cat+1=one@7");
        d.answer("0:0=cat+1=one@7");
        d.x.bend(1, 9);
        d.answer("1:0=cat+1=other@7");
        d.dueVote(1, 0, 1, 50, 0, 5, 'o', 't', 'h', 'e', 'r');
        d.due("undo()", d.x.undo(), 5);
        d.due("undo()", d.x.undo(), 4);
        d.dueWord(1, 1, 9, 2, 1, 105, 105, 7, 0);
        d.dueVote(1, 0, 2, 105, 0, 3, 'o', 'n', 'e');

        d.on("21 undo of a second answer with more weight");
        d.know("cat", 0);
        d.x.add(9);
        d.answer("0:0=cat+1=one@7");
        d.x.trust(1, 99);
        d.answer("1:0=cat+1=two@7");
        d.dueVote(1, 0, 1, 50, 1);
        d.x.undo();
        d.dueVote(1, 0, 1, 50, 0);
        d.dueWord(1, 1, 9, 1, 1, 50, 50, 7, 0);
    }

    private static void saveAndRestore() {
        d.on("22 save");
        d.due("save(-1)", d.x.save(-1), BentWords.BAD_VALUE);
        d.due("save(2)", d.x.save(2), BentWords.BAD_VALUE);
        d.due("save(0) of none", d.x.save(0), 0);
        d.x.add(0);
        d.due("save(1)", d.x.save(1), 1);
        d.dueCount(17, 1);

        d.on("23 restore");
        d.due("restore(-1)", d.x.restore(-1), BentWords.BAD_VALUE);
        d.due("restore(2)", d.x.restore(2), BentWords.BAD_VALUE);
        d.due("restore(0)", d.x.restore(0), BentWords.NOT_POSSIBLE);
        d.x.set(BentWords.AGREE, 50);
        d.x.set(BentWords.EARLY, 0);
        d.know("cat", 3);
        d.x.add(0);
        d.x.add(9);
        d.answer("0:0=cat+1=x@7");
        d.answer("1:0=cat+2=y@7");
        d.answer("1:0=dog+2=y@7");
        d.due("save(0)", d.x.save(0), 3);
        d.due("restore(1)", d.x.restore(1), BentWords.NOT_POSSIBLE);
        d.x.drop(1);
        d.x.drop(0);
        d.x.drop(0);
        d.x.set(BentWords.AGREE, 99);
        d.x.trust(0, 0);
        d.pad("pad");
        d.due("save(1)", d.x.save(1), 0);
        for (int round = 0; round < 2; round++) {
            d.due("restore(0)", d.x.restore(0), 3);
            d.dueCount(0, 50);
            d.dueCount(16, 3);
            d.dueCount(17, 6);
            d.dueCount(11, 3);
            d.dueCount(14, 1);
            d.dueWord(0, 0, 3, 0, 0, 0, 0, 0, 1, 3, 'c', 'a', 't');
            d.dueWord(1, 2, 0, 1, 1, 50, 50, 7, 0, 1, 'x');
            d.dueWord(2, 1, 9, 1, 1, 50, 50, 7, 0);
            d.dueVote(2, 0, 1, 50, 0, 1, 'y');
            d.dueSolver(0, 55, 1, 1, 0, 7);
            d.dueSolver(1, 45, 2, 1, 5, 7);
            d.x.bend(2, 0);
            d.x.trust(1, 0);
        }
        d.due("restore(1)", d.x.restore(1), 0);
        d.dueCount(0, 99);
        d.due("undo()", d.x.undo(), 5);
        d.dueCount(6, 3);
        d.dueSolver(1, 0);
        d.due("save(0) over the first", d.x.save(0), 3);
        d.x.drop(0);
        d.due("restore(0)", d.x.restore(0), 3);
        d.dueSolver(1, 0);
        d.dueWord(2, 1, 0, 0);
    }
}
