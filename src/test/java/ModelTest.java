import java.util.Random;

/** Runs of mixed calls, always the same ones, on BentWords and on Model: both must answer alike. */
public final class ModelTest {
    private static final int RUNS = 4000, CALLS = 512;
    private static final int[] ODD = {-1, Integer.MIN_VALUE, Integer.MAX_VALUE, -6, 12, 100};
    private static final String[] TOLD = {"cat", "dog", "abcdef", "z"};
    private static final String[] GUESSED = {"a", "b", "zz", "cat", "abcdef"};

    private final Random random;
    private final int run;
    private final BentWords x = new BentWords();
    private final Model model = new Model();
    private final boolean isWild;
    private int calls = 0;
    private boolean isWrong = false;
    private final StringBuilder told = new StringBuilder();

    private ModelTest(int run) {
        this.run = run;
        random = new Random(run);
        isWild = run % 4 == 0;
    }

    public static void main(String[] args) {
        int wrong = 0;
        for (int run = 0; run < RUNS && wrong < 3; run++) {
            if (!new ModelTest(run).isAlike()) {
                wrong++;
            }
        }
        System.out.println(wrong == 0 ? "all answers are as due" : "runs are not as due");
        if (wrong != 0) {
            System.exit(1);
        }
    }

    private boolean isAlike() {
        if (run % 2 == 1) {
            begin();
        }
        int looks = 2 + random.nextInt(40);
        while (calls < CALLS && !isWrong) {
            if (random.nextInt(100) < looks) {
                look(random.nextInt(14));
            } else {
                change(random.nextInt(100));
            }
        }
        return !isWrong;
    }

    private void same(String call, int got, int want) {
        calls++;
        if (told.length() < 100_000) {
            told.append(call).append(" = ").append(got).append('\n');
        }
        if (got != want && !isWrong && calls <= CALLS) {
            isWrong = true;
            System.out.println("run " + run + ", model says " + want + " at the last of\n" + told);
        }
    }

    private int pick(int many) {
        return isWild && random.nextInt(25) == 0 ? ODD[random.nextInt(ODD.length)] : random.nextInt(many);
    }

    private int word() {
        return random.nextInt(12) == 0 ? pick(13) : pick(Math.max(1, model.count(6)));
    }

    private void begin() {
        set(BentWords.AGREE, 10 + random.nextInt(200));
        set(BentWords.EARLY, random.nextInt(3));
        set(BentWords.FAST, random.nextInt(12));
        say(TOLD[random.nextInt(TOLD.length)]);
        know(random.nextInt(10));
        for (int i = random.nextInt(5); i >= 0; i--) {
            add(random.nextInt(4));
        }
    }

    private void set(int setting, int value) {
        same("set(" + setting + ", " + value + ")", x.set(setting, value), model.set(setting, value));
    }

    private void know(int bend) {
        same("know(" + bend + ")", x.know(bend), model.know(bend));
    }

    private void add(int bend) {
        same("add(" + bend + ")", x.add(bend), model.add(bend));
    }

    private void say(String text) {
        same("wipe()", x.wipe(), model.wipe());
        for (int i = 0; i < text.length(); i += 8) {
            put(Due.packed(text.substring(i, Math.min(text.length(), i + 8))));
        }
    }

    private void put(long characters) {
        same("put(" + characters + ")", x.put(characters), model.put(characters));
    }

    private void answer() {
        say(answerText());
        if (random.nextInt(4) == 0) {
            same("fault()", x.fault(), model.fault());
        }
        same("answer()", x.answer(), model.answer());
    }

    private String answerText() {
        int words = Math.max(1, model.count(6));
        int first = random.nextInt(words);
        int second = random.nextInt(words);
        for (int i = 0; i < 20 && (model.word(first, 0) & 1) == 1; i++) {
            first = random.nextInt(words);
        }
        for (int i = 0; i < 20 && model.word(second, 0) != 1; i++) {
            second = random.nextInt(words);
        }
        StringBuilder letters = new StringBuilder();
        for (int i = 9; model.word(first, i) > 0; i++) {
            letters.append((char) model.word(first, i));
        }
        if (letters.length() == 0 || random.nextInt(6) == 0) {
            letters.setLength(0);
            letters.append(TOLD[random.nextInt(TOLD.length)]);
        }
        String guessed = GUESSED[random.nextInt(1 + random.nextInt(GUESSED.length))];
        int seconds = 1 + random.nextInt(random.nextBoolean() ? 60 : 12);
        String text = random.nextInt(6) + ":" + first + "=" + letters + "+" + second + "=" + guessed + "@" + seconds;
        return random.nextInt(20) == 0 ? spoilt(text) : text;
    }

    private String spoilt(String text) {
        int at = random.nextInt(text.length());
        String signs = "0123456789:=+@abz`{A~!";
        String sign = random.nextInt(3) == 0 ? "" : "" + signs.charAt(random.nextInt(signs.length()));
        return text.substring(0, at) + sign + (random.nextInt(4) == 0 ? "" : text.substring(at + random.nextInt(2)));
    }

    private void change(int which) {
        if (which < 60) {
            answer();
        } else if (which < 66) {
            int setting = pick(6);
            set(setting, random.nextInt(5) == 0 ? pick(420) : pick(new int[] {200, 60, 5, 15, 21, 51}[Math.floorMod(setting, 6)]));
        } else if (which < 70) {
            say(TOLD[random.nextInt(TOLD.length)]);
            know(pick(10));
        } else if (which < 76) {
            add(pick(random.nextBoolean() ? 3 : 11));
        } else if (which < 80) {
            int word = word();
            int bend = pick(10);
            same("bend(" + word + ", " + bend + ")", x.bend(word, bend), model.bend(word, bend));
        } else if (which < 82) {
            int word = word();
            same("drop(" + word + ")", x.drop(word), model.drop(word));
        } else if (which < 86) {
            int solver = pick(6);
            int trust = random.nextInt(6) == 0 ? 0 : pick(101);
            same("trust(" + solver + ", " + trust + ")", x.trust(solver, trust), model.trust(solver, trust));
        } else if (which < 88) {
            put(isWild ? random.nextLong() : 33 + random.nextInt(94));
        } else if (which < 93) {
            for (int i = random.nextInt(3); i >= 0; i--) {
                same("undo()", x.undo(), model.undo());
            }
        } else if (which < 96) {
            int slot = pick(2);
            same("save(" + slot + ")", x.save(slot), model.save(slot));
        } else if (which < 99) {
            int slot = pick(2);
            same("restore(" + slot + ")", x.restore(slot), model.restore(slot));
        } else {
            same("wipe()", x.wipe(), model.wipe());
        }
    }

    private void look(int which) {
        int word = word();
        int what = pick(16);
        int solver = pick(6);
        switch (which) {
            case 0, 1, 2 -> same("word(" + word + ", " + what + ")", x.word(word, what), model.word(word, what));
            case 3, 4 -> {
                int answer = pick(4);
                what = pick(10);
                same("vote(" + word + ", " + answer + ", " + what + ")", x.vote(word, answer, what), model.vote(word, answer, what));
            }
            case 5 -> {
                what = pick(5);
                same("solver(" + solver + ", " + what + ")", x.solver(solver, what), model.solver(solver, what));
            }
            case 6, 7 -> {
                what = pick(18);
                same("count(" + what + ")", x.count(what), model.count(what));
            }
            case 8 -> same("lacking(" + word + ")", x.lacking(word), model.lacking(word));
            case 9 -> same("answersFor(" + solver + ", " + word + ")", x.answersFor(solver, word), model.answersFor(solver, word));
            case 10 -> {
                int seconds = pick(62);
                same("ifVoted(" + solver + ", " + word + ", " + seconds + ")", x.ifVoted(solver, word, seconds), model.ifVoted(solver, word, seconds));
            }
            case 11 -> same("mostMissed()", x.mostMissed(), model.mostMissed());
            case 12 -> same("nearest()", x.nearest(), model.nearest());
            default -> same("fault()", x.fault(), model.fault());
        }
    }
}
