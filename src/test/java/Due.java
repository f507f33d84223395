/** Counts and prints the answers that are not due; puts texts and answers for the tests. */
final class Due {
    private int wrong = 0;
    private String promise = "";
    BentWords x = new BentWords();

    /** Starts a test of a promise, on a new object. */
    Due on(String name) {
        promise = name;
        x = new BentWords();
        return this;
    }

    void due(String call, long got, long want) {
        if (got != want) {
            wrong++;
            System.out.println(promise + ": " + call + " answered " + got + ", due is " + want);
        }
    }

    /** Up to eight characters as the number that put takes. */
    static long packed(String text) {
        long number = 0;
        for (int i = 0; i < text.length(); i++) {
            number = number << 8 | text.charAt(i);
        }
        return number;
    }

    /** Makes the pad this text, whatever it was. */
    void pad(String text) {
        x.wipe();
        for (int i = 0; i < text.length(); i += 8) {
            int end = Math.min(text.length(), i + 8);
            due("put of " + text.substring(i, end), x.put(packed(text.substring(i, end))), end);
        }
    }

    int know(String word, int bend) {
        pad(word);
        return x.know(bend);
    }

    int answer(String text) {
        pad(text);
        return x.answer();
    }

    int fault(String text) {
        pad(text);
        return x.fault();
    }

    /** Looks at answers in a row: what(0), what(1), .. of a word. */
    void dueWord(int word, int... wanted) {
        for (int i = 0; i < wanted.length; i++) {
            due("word(" + word + ", " + i + ")", x.word(word, i), wanted[i]);
        }
    }

    void dueVote(int word, int answer, int... wanted) {
        for (int i = 0; i < wanted.length; i++) {
            due("vote(" + word + ", " + answer + ", " + i + ")", x.vote(word, answer, i), wanted[i]);
        }
    }

    void dueSolver(int solver, int... wanted) {
        for (int i = 0; i < wanted.length; i++) {
            due("solver(" + solver + ", " + i + ")", x.solver(solver, i), wanted[i]);
        }
    }

    void dueCount(int what, int wanted) {
        due("count(" + what + ")", x.count(what), wanted);
    }

    /** Prints the outcome; ends with exit code 1 if an answer was wrong. */
    void end() {
        System.out.println(wrong == 0 ? "all answers are as due" : wrong + " answers are not as due");
        if (wrong != 0) {
            System.exit(1);
        }
    }
}
