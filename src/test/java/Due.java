/** Counts and prints the answers that are not due; puts texts and answers for the tests. */
final class Due {
    private final boolean isQuiet;
    private int wrong = 0;
    private String promise = "";
    BentWords x = new BentWords();

    Due() {
        this(false);
    }

    Due(boolean isQuiet) {
        this.isQuiet = isQuiet;
    }

    /** Starts a test of a promise, on a new object. */
    Due on(String name) {
        promise = name;
        x = new BentWords();
        return this;
    }

    void due(String call, long got, long want) {
        if (got != want) {
            wrong++;
            if (!isQuiet) {
                System.out.println(promise + ": " + call + " answered " + got + ", due is " + want);
            }
        }
    }

    int wrong() {
        return wrong;
    }

    /** Up to eight characters as the number that put takes. */
    static long packed(String text) {
        long number = 0;
        for (int i = 0; i < text.length(); i++) {
            number = number << 8 | text.charAt(i);
        }
        return number;
    }

    /** Makes the pad this text, whatever it was. */
    void pad(String text) {
        x.wipe();
        for (int i = 0; i < text.length(); i += 8) {
            int end = Math.min(text.length(), i + 8);
            due("put of " + text.substring(i, end), x.put(packed(text.substring(i, end))), end);
        }
    }

    int know(String word, int bend) {
        pad(word);
        return x.know(bend);
    }

    int answer(String text) {
        pad(text);
        return x.answer();
    }

    int fault(String text) {
        pad(text);
        return x.fault();
    }

    /** Word 0 is "cat", and words of these bends behind it are unknown. */
    void catAnd(int... bends) {
        due("know of cat", know("cat", 0), 0);
        for (int i = 0; i < bends.length; i++) {
            due("add", x.add(bends[i]), i + 1);
        }
    }

    /** An answer that is right, if word 0 is "cat". */
    int right(int solver, int word, String letters, int seconds) {
        return answer(solver + ":0=cat+" + word + "=" + letters + "@" + seconds);
    }

    /** An answer that is wrong, if word 0 is "cat". */
    int wrong(int solver, int word, String letters, int seconds) {
        return answer(solver + ":0=cow+" + word + "=" + letters + "@" + seconds);
    }

    /** From here on a word is agreed on with a vote of any weight, and solved if it took 5 seconds or more. */
    void agreeAtOnce() {
        x.set(BentWords.AGREE, 10);
        x.set(BentWords.LEAD, 0);
        x.set(BentWords.EARLY, 0);
    }

    /** Words 0 to 3 are of the kinds 0 to 3; it is agreed at once. */
    void oneOfEachKind() {
        agreeAtOnce();
        catAnd(9, 0, 0);
        due("solving word 2", right(0, 2, "dog", 9), 2);
        due("retiring word 3", right(0, 3, "pig", 1), 3);
    }

    /** Looks at answers in a row: what(0), what(1), .. of a word. */
    void dueWord(int word, int... wanted) {
        for (int i = 0; i < wanted.length; i++) {
            due("word(" + word + ", " + i + ")", x.word(word, i), wanted[i]);
        }
    }

    void dueVote(int word, int answer, int... wanted) {
        for (int i = 0; i < wanted.length; i++) {
            due("vote(" + word + ", " + answer + ", " + i + ")", x.vote(word, answer, i), wanted[i]);
        }
    }

    void dueSolver(int solver, int... wanted) {
        for (int i = 0; i < wanted.length; i++) {
            due("solver(" + solver + ", " + i + ")", x.solver(solver, i), wanted[i]);
        }
    }

    void dueCount(int what, int wanted) {
        due("count(" + what + ")", x.count(what), wanted);
    }

    /** The letters of a known or solved word. */
    void dueLetters(int word, String wanted) {
        due("letters of word " + word, x.word(word, 8), wanted.length());
        for (int i = 0; i < wanted.length(); i++) {
            due("letter " + i + " of word " + word, x.word(word, 9 + i), wanted.charAt(i));
        }
    }

    /** All that the looks tell, apart from the pad's characters, the slots and the history. */
    String everything() {
        StringBuilder text = new StringBuilder();
        for (int what = 0; what < 18; what++) {
            text.append(x.count(what)).append(' ');
        }
        for (int solver = 0; solver < 6; solver++) {
            for (int what = 0; what < 5; what++) {
                text.append(x.solver(solver, what)).append(' ');
            }
        }
        for (int word = 0; word < x.count(6); word++) {
            for (int what = 0; what < 15; what++) {
                text.append(x.word(word, what)).append(' ');
            }
            for (int answer = 0; answer < x.word(word, 3); answer++) {
                for (int what = 0; what < 10; what++) {
                    text.append(x.vote(word, answer, what)).append(' ');
                }
            }
        }
        return text.append(x.fault()).toString();
    }

    /** Prints the outcome; ends with exit code 1 if an answer was wrong. */
    void end() {
        System.out.println(wrong == 0 ? "all answers are as due" : wrong + " answers are not as due");
        if (wrong != 0) {
            System.exit(1);
        }
    }
}
