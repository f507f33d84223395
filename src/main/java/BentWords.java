public final class BentWords {
    public static final int NO_SUCH = -1, BAD_VALUE = -2, BAD_TEXT = -3, TOO_MANY = -4, NOT_POSSIBLE = -5, NONE = -6;
    public static final int AGREE = 0, LEAD = 1, EARLY = 2, FAST = 3, UP = 4, DOWN = 5;

    private static final int KNOWN = 0, UNKNOWN = 1, SOLVED = 2, RETIRED = 3;
    private static final int SETTINGS = 6, SOLVERS = 6, SLOTS = 2, KINDS = 4;
    private static final int MOST_WORDS = 12, MOST_LETTERS = 6, MOST_CHARACTERS = 60, MOST_CHANGES = 6;
    private static final int MOST_BEND = 9, MOST_TRUST = 100, FIRST_TRUST = 50, MOST_SECONDS = 60;
    private static final int MOST_RIGHT_ANSWERS = 100, WEIGHT_PER_BEND = 10;
    private static final int FIRST_CODE = 33, LAST_CODE = 126, MOST_AT_ONCE = 8;

    // The shortest answer has 11 characters, which is two calls of put, and then its call of answer:
    // in the 512 calls of an object there are no more votes than this, so no more unlike answers.
    private static final int MOST_ANSWERS = 512 / 3;

    // Letters are held in one number, five bits for each and never 0, so that unlike letters are
    // unlike numbers; 0 stands for no letters.
    private static final int LETTER_BITS = 5, LETTER_MASK = 31, BEFORE_A = 'a' - 1;

    private static final int NOWHERE = -1;

    private static final int[] LOWEST = {10, 0, 0, 0, 0, 0};
    private static final int[] HIGHEST = {400, 200, 9, 60, 20, 50};
    private static final int[] FIRST = {100, 30, 2, 5, 5, 10};

    private final Pad pad;
    private final Reading reading;
    private final State now;
    private final State[] history;
    private int changes;
    private final State[] slots;
    private final boolean[] saved;

    public BentWords() {
        reading = new Reading();
        pad = reading.pad;
        now = new State();
        history = new State[MOST_CHANGES];
        for (int i = 0; i < MOST_CHANGES; i++) {
            history[i] = new State();
        }
        slots = new State[SLOTS];
        for (int i = 0; i < SLOTS; i++) {
            slots[i] = new State();
        }
        saved = new boolean[SLOTS];
    }

    // ---- changes

    public int set(int setting, int value) {
        if (!isWithin(setting, 0, SETTINGS - 1) || !isWithin(value, LOWEST[setting], HIGHEST[setting])) {
            return BAD_VALUE;
        }
        remember();
        int previous = now.settings[setting];
        now.settings[setting] = value;
        return previous;
    }

    public int know(int bend) {
        if (!isWithin(bend, 0, MOST_BEND)) {
            return BAD_VALUE;
        }
        int letters = reading.readWholeAsLetters();
        if (letters == 0) {
            return BAD_TEXT;
        }
        if (!now.hasRoom()) {
            return TOO_MANY;
        }
        remember();
        pad.length = 0;
        return now.append(KNOWN, bend, letters);
    }

    public int add(int bend) {
        if (!isWithin(bend, 0, MOST_BEND)) {
            return BAD_VALUE;
        }
        if (!now.hasRoom()) {
            return TOO_MANY;
        }
        remember();
        return now.append(UNKNOWN, bend, 0);
    }

    public int answer() {
        if (reading.readWholeAsAnswer() != NONE) {
            return BAD_TEXT;
        }
        if (!now.hasWord(reading.told.word) || !now.hasWord(reading.other.word)) {
            return NO_SUCH;
        }
        Word other = now.words[reading.other.word];
        if (!now.words[reading.told.word].isTold() || other.kind != UNKNOWN) {
            return NOT_POSSIBLE;
        }
        remember();
        pad.length = 0;
        now.take(reading);
        return other.kind;
    }

    public int bend(int word, int bend) {
        if (!now.hasWord(word)) {
            return NO_SUCH;
        }
        if (!isWithin(bend, 0, MOST_BEND)) {
            return BAD_VALUE;
        }
        int before = now.words[word].kind;
        if (before == KNOWN) {
            return NOT_POSSIBLE;
        }
        remember();
        now.words[word].begin(UNKNOWN, bend, 0);
        now.ballot.forget(word);
        return before;
    }

    public int drop(int word) {
        if (!now.hasWord(word)) {
            return NO_SUCH;
        }
        remember();
        int kind = now.words[word].kind;
        now.remove(word);
        return kind;
    }

    public int trust(int solver, int trust) {
        if (!isSolver(solver)) {
            return NO_SUCH;
        }
        if (!isWithin(trust, 0, MOST_TRUST)) {
            return BAD_VALUE;
        }
        remember();
        int previous = now.solvers[solver].trust;
        now.solvers[solver].trust = trust;
        return previous;
    }

    // ---- what there is; nothing changes

    public int word(int word, int what) {
        if (!now.hasWord(word)) {
            return NO_SUCH;
        }
        if (what < 0) {
            return BAD_VALUE;
        }
        Word asked = now.words[word];
        switch (what) {
            case 0: return asked.kind;
            case 1: return asked.bend;
            case 2: return asked.votes;
            case 3: return now.ballot.unlikeAnswers(word);
            case 4: return now.ballot.leadingWeight(word);
            case 5: return now.ballot.leadOf(word);
            case 6: return mean(asked.seconds, asked.votes);
            case 7: return asked.missed;
            default: return aboutLetters(asked.letters, what - 8);
        }
    }

    public int vote(int word, int answer, int what) {
        if (!now.hasWord(word)) {
            return NO_SUCH;
        }
        int place = now.ballot.placeOfAnswer(word, answer);
        if (place == NOWHERE) {
            return NO_SUCH;
        }
        if (what < 0) {
            return BAD_VALUE;
        }
        switch (what) {
            case 0: return now.ballot.votes[place];
            case 1: return now.ballot.weights[place];
            case 2: return now.ballot.rankByWeight(place);
            default: return aboutLetters(now.ballot.letters[place], what - 3);
        }
    }

    public int solver(int solver, int what) {
        if (!isSolver(solver)) {
            return NO_SUCH;
        }
        Solver asked = now.solvers[solver];
        switch (what) {
            case 0: return asked.trust;
            case 1: return asked.answers;
            case 2: return asked.right;
            case 3: return now.rankByTrust(solver);
            case 4: return mean(asked.seconds, asked.answers);
            default: return BAD_VALUE;
        }
    }

    public int count(int what) {
        if (isWithin(what, 0, SETTINGS - 1)) {
            return now.settings[what];
        }
        if (isWithin(what, 7, 7 + KINDS - 1)) {
            return now.wordsOfKind(what - 7);
        }
        switch (what) {
            case 6: return now.wordCount;
            case 11: return now.allAnswers();
            case 12: return now.allRight();
            case 13: return now.retiredSoFar;
            case 14: return now.solvedSoFar;
            case 15: return now.allTrust();
            case 16: return pad.length;
            case 17: return changes;
            default: return BAD_VALUE;
        }
    }

    // ---- what if; nothing changes

    public int lacking(int word) {
        if (!now.hasWord(word)) {
            return NO_SUCH;
        }
        if (now.words[word].kind != UNKNOWN) {
            return NOT_POSSIBLE;
        }
        return now.weightLacking(word);
    }

    public int answersFor(int solver, int word) {
        if (!isSolver(solver) || !now.hasWord(word)) {
            return NO_SUCH;
        }
        if (now.words[word].kind != UNKNOWN) {
            return NOT_POSSIBLE;
        }
        int lacking = now.weightLacking(word);
        int trust = now.solvers[solver].trust;
        for (int answers = 1; answers <= MOST_RIGHT_ANSWERS; answers++) {
            lacking -= trust;
            if (lacking <= 0) {
                return answers;
            }
            trust = now.trustBehindRight(trust);
        }
        return NONE;
    }

    public int ifVoted(int solver, int word, int seconds) {
        if (!isSolver(solver) || !now.hasWord(word)) {
            return NO_SUCH;
        }
        if (!isWithin(seconds, 1, MOST_SECONDS)) {
            return BAD_VALUE;
        }
        Word asked = now.words[word];
        if (asked.kind != UNKNOWN || asked.votes == 0) {
            return NOT_POSSIBLE;
        }
        if (now.weightLacking(word) > now.solvers[solver].trust) {
            return UNKNOWN;
        }
        return now.kindWhenAgreed(asked.votes + 1, asked.seconds + seconds);
    }

    public int mostMissed() {
        int found = NONE;
        int most = 0;
        for (int i = 0; i < now.wordCount; i++) {
            if (now.words[i].isTold() && now.words[i].missed > most) {
                found = i;
                most = now.words[i].missed;
            }
        }
        return found;
    }

    public int nearest() {
        int found = NONE;
        int least = 0;
        for (int i = 0; i < now.wordCount; i++) {
            if (now.words[i].kind == UNKNOWN) {
                int lacking = now.weightLacking(i);
                if (found == NONE || lacking < least) {
                    found = i;
                    least = lacking;
                }
            }
        }
        return found;
    }

    // ---- texts

    public int put(long characters) {
        int many = charactersIn(characters);
        if (many == 0) {
            return BAD_VALUE;
        }
        if (!pad.hasRoomFor(many)) {
            return TOO_MANY;
        }
        for (int i = many - 1; i >= 0; i--) {
            pad.append(codeAt(characters, i));
        }
        return pad.length;
    }

    public int wipe() {
        int before = pad.length;
        pad.length = 0;
        return before;
    }

    public int fault() {
        return reading.readWholeAsAnswer();
    }

    // ---- undo, saving

    public int undo() {
        if (changes == 0) {
            return NOT_POSSIBLE;
        }
        changes--;
        now.copyFrom(history[changes]);
        return changes;
    }

    public int save(int slot) {
        if (!isWithin(slot, 0, SLOTS - 1)) {
            return BAD_VALUE;
        }
        slots[slot].copyFrom(now);
        saved[slot] = true;
        return now.wordCount;
    }

    public int restore(int slot) {
        if (!isWithin(slot, 0, SLOTS - 1)) {
            return BAD_VALUE;
        }
        if (!saved[slot]) {
            return NOT_POSSIBLE;
        }
        remember();
        now.copyFrom(slots[slot]);
        return now.wordCount;
    }

    // The oldest state's object goes round to the other end: no call makes a new one.
    private void remember() {
        if (changes == MOST_CHANGES) {
            State oldest = history[0];
            for (int i = 1; i < MOST_CHANGES; i++) {
                history[i - 1] = history[i];
            }
            history[MOST_CHANGES - 1] = oldest;
            changes--;
        }
        history[changes].copyFrom(now);
        changes++;
    }

    private static boolean isWithin(int value, int lowest, int highest) {
        return value >= lowest && value <= highest;
    }

    private static boolean isSolver(int solver) {
        return isWithin(solver, 0, SOLVERS - 1);
    }

    private static int mean(int sum, int many) {
        return many == 0 ? 0 : sum / many;
    }

    private static int lettersIn(int letters) {
        int many = 0;
        while (many < MOST_LETTERS && letters >>> (LETTER_BITS * many) != 0) {
            many++;
        }
        return many;
    }

    // What 0 asks how many letters, 1 for the code of the first one, and so on.
    private static int aboutLetters(int letters, int what) {
        int many = lettersIn(letters);
        if (many == 0 || what > many) {
            return NONE;
        }
        if (what == 0) {
            return many;
        }
        return BEFORE_A + (letters >>> (LETTER_BITS * (many - what)) & LETTER_MASK);
    }

    private static int codeAt(long characters, int fromLast) {
        return (int) (characters >>> (8 * fromLast) & 255);
    }

    // 0 also stands for characters that cannot be put.
    private static int charactersIn(long characters) {
        int many = 0;
        while (many < MOST_AT_ONCE && isWithin(codeAt(characters, many), FIRST_CODE, LAST_CODE)) {
            many++;
        }
        // A shift by all 64 bits would shift by none.
        boolean nothingAbove = many == MOST_AT_ONCE || characters >>> (8 * many) == 0;
        return nothingAbove ? many : 0;
    }

    private static final class Pad {
        final char[] characters = new char[MOST_CHARACTERS];
        int length;

        boolean hasRoomFor(int many) {
            return length + many <= MOST_CHARACTERS;
        }

        void append(int code) {
            if (hasRoomFor(1)) {
                characters[length] = (char) code;
                length++;
            }
        }
    }

    private static final class Part {
        int word, letters;
    }

    /** Reads the pad from left to right; stops at the first character that cannot stand at its place. */
    private static final class Reading {
        final Pad pad = new Pad();
        private int at;
        int solver, seconds;
        final Part told = new Part();
        final Part other = new Part();

        /** Returns the letters, 0 if the pad is anything else. */
        int readWholeAsLetters() {
            at = 0;
            int letters = readLetters();
            return at == pad.length ? letters : 0;
        }

        /** Returns the fault, NONE if there is none. */
        int readWholeAsAnswer() {
            at = 0;
            boolean isAnswer = readSolver() && readSign(':')
                && readPart(told) && readSign('+')
                && readPart(other) && readSign('@')
                && readSeconds() && at == pad.length;
            return isAnswer ? NONE : at;
        }

        private boolean readSolver() {
            solver = readDigit(0, SOLVERS - 1);
            return solver >= 0;
        }

        private boolean readPart(Part part) {
            part.word = readWordNumber();
            if (part.word < 0 || !readSign('=')) {
                return false;
            }
            part.letters = readLetters();
            return part.letters != 0;
        }

        private boolean readSeconds() {
            seconds = readDigit(1, 9);
            if (seconds >= 1 && seconds <= 6) {
                int second = readDigit(0, seconds == 6 ? 0 : 9);
                if (second >= 0) {
                    seconds = 10 * seconds + second;
                }
            }
            return seconds > 0;
        }

        private int readWordNumber() {
            int first = readDigit(0, 9);
            if (first != 1) {
                return first;
            }
            int second = readDigit(0, 1);
            return second < 0 ? 1 : 10 + second;
        }

        private boolean readSign(char sign) {
            if (at >= pad.length || pad.characters[at] != sign) {
                return false;
            }
            at++;
            return true;
        }

        /** Returns the digit, below 0 if none of these stands here. */
        private int readDigit(int lowest, int highest) {
            if (at >= pad.length) {
                return -1;
            }
            int digit = pad.characters[at] - '0';
            if (!isWithin(digit, lowest, highest)) {
                return -1;
            }
            at++;
            return digit;
        }

        private int readLetters() {
            int letters = 0;
            for (int i = 0; i < MOST_LETTERS && at < pad.length; i++) {
                char letter = pad.characters[at];
                if (letter < 'a' || letter > 'z') {
                    return letters;
                }
                letters = letters << LETTER_BITS | letter - BEFORE_A;
                at++;
            }
            return letters;
        }
    }

    private static final class Word {
        int kind, bend, letters, missed, votes, seconds;

        void begin(int newKind, int newBend, int newLetters) {
            kind = newKind;
            bend = newBend;
            letters = newLetters;
            missed = 0;
            votes = 0;
            seconds = 0;
        }

        boolean isTold() {
            return kind == KNOWN || kind == SOLVED;
        }

        void copyFrom(Word other) {
            kind = other.kind;
            bend = other.bend;
            letters = other.letters;
            missed = other.missed;
            votes = other.votes;
            seconds = other.seconds;
        }
    }

    private static final class Solver {
        int trust = FIRST_TRUST, answers, right, seconds;

        void copyFrom(Solver other) {
            trust = other.trust;
            answers = other.answers;
            right = other.right;
            seconds = other.seconds;
        }
    }

    /** The unlike answers of all words, each at a place; the places are in the order of the first votes. */
    private static final class Ballot {
        private final int[] words = new int[MOST_ANSWERS];
        final int[] letters = new int[MOST_ANSWERS];
        final int[] votes = new int[MOST_ANSWERS];
        final int[] weights = new int[MOST_ANSWERS];
        private int size;

        void copyFrom(Ballot other) {
            size = other.size;
            System.arraycopy(other.words, 0, words, 0, size);
            System.arraycopy(other.letters, 0, letters, 0, size);
            System.arraycopy(other.votes, 0, votes, 0, size);
            System.arraycopy(other.weights, 0, weights, 0, size);
        }

        int placeOfAnswer(int word, int answer) {
            int before = 0;
            for (int i = 0; i < size; i++) {
                if (words[i] == word) {
                    if (before == answer) {
                        return i;
                    }
                    before++;
                }
            }
            return NOWHERE;
        }

        int unlikeAnswers(int word) {
            int many = 0;
            for (int i = 0; i < size; i++) {
                if (words[i] == word) {
                    many++;
                }
            }
            return many;
        }

        int leadingLetters(int word) {
            int leading = leadingPlace(word);
            return leading == NOWHERE ? 0 : letters[leading];
        }

        int leadingWeight(int word) {
            int leading = leadingPlace(word);
            return leading == NOWHERE ? 0 : weights[leading];
        }

        int leadOf(int word) {
            int leading = leadingPlace(word);
            if (leading == NOWHERE) {
                return 0;
            }
            int mostOfOthers = 0;
            for (int i = 0; i < size; i++) {
                if (words[i] == word && i != leading) {
                    mostOfOthers = Math.max(mostOfOthers, weights[i]);
                }
            }
            return weights[leading] - mostOfOthers;
        }

        int rankByWeight(int place) {
            int ahead = 0;
            for (int i = 0; i < size; i++) {
                boolean isAhead = weights[i] > weights[place] || weights[i] == weights[place] && i < place;
                if (words[i] == words[place] && isAhead) {
                    ahead++;
                }
            }
            return ahead;
        }

        /** Returns false if there is no room, as can be behind the object's last promised call alone. */
        boolean cast(int word, int answered, int weight) {
            int place = placeOfLetters(word, answered);
            if (place == NOWHERE) {
                if (size >= MOST_ANSWERS) {
                    return false;
                }
                place = size;
                size++;
                words[place] = word;
                letters[place] = answered;
                votes[place] = 0;
                weights[place] = 0;
            }
            votes[place]++;
            weights[place] += weight;
            return true;
        }

        void forget(int word) {
            int kept = 0;
            for (int i = 0; i < size; i++) {
                if (words[i] != word) {
                    words[kept] = words[i];
                    letters[kept] = letters[i];
                    votes[kept] = votes[i];
                    weights[kept] = weights[i];
                    kept++;
                }
            }
            size = kept;
        }

        void renumberBehind(int word) {
            for (int i = 0; i < size; i++) {
                if (words[i] > word) {
                    words[i]--;
                }
            }
        }

        private int placeOfLetters(int word, int answered) {
            for (int i = 0; i < size; i++) {
                if (words[i] == word && letters[i] == answered) {
                    return i;
                }
            }
            return NOWHERE;
        }

        private int leadingPlace(int word) {
            int leading = NOWHERE;
            for (int i = 0; i < size; i++) {
                if (words[i] == word && (leading == NOWHERE || weights[i] > weights[leading])) {
                    leading = i;
                }
            }
            return leading;
        }
    }

    /** All that undo and restore bring back. */
    private static final class State {
        final int[] settings = FIRST.clone();
        final Solver[] solvers = new Solver[SOLVERS];
        final Word[] words = new Word[MOST_WORDS];
        final Ballot ballot = new Ballot();
        int wordCount, retiredSoFar, solvedSoFar;

        State() {
            for (int i = 0; i < SOLVERS; i++) {
                solvers[i] = new Solver();
            }
            for (int i = 0; i < MOST_WORDS; i++) {
                words[i] = new Word();
            }
        }

        void copyFrom(State other) {
            System.arraycopy(other.settings, 0, settings, 0, SETTINGS);
            for (int i = 0; i < SOLVERS; i++) {
                solvers[i].copyFrom(other.solvers[i]);
            }
            wordCount = other.wordCount;
            for (int i = 0; i < wordCount; i++) {
                words[i].copyFrom(other.words[i]);
            }
            ballot.copyFrom(other.ballot);
            retiredSoFar = other.retiredSoFar;
            solvedSoFar = other.solvedSoFar;
        }

        boolean hasWord(int word) {
            return word >= 0 && word < wordCount;
        }

        boolean hasRoom() {
            return wordCount < MOST_WORDS;
        }

        int append(int kind, int bend, int letters) {
            if (!hasRoom()) {
                return TOO_MANY;
            }
            int word = wordCount;
            wordCount++;
            words[word].begin(kind, bend, letters);
            return word;
        }

        // The dropped word's object goes behind the others, for the next word.
        void remove(int word) {
            Word dropped = words[word];
            for (int i = word + 1; i < wordCount; i++) {
                words[i - 1] = words[i];
            }
            wordCount--;
            words[wordCount] = dropped;
            ballot.forget(word);
            ballot.renumberBehind(word);
        }

        void take(Reading said) {
            Solver solver = solvers[said.solver];
            Word told = words[said.told.word];
            solver.answers++;
            solver.seconds += said.seconds;
            if (told.letters == said.told.letters) {
                int weight = solver.trust;
                solver.right++;
                solver.trust = trustBehindRight(weight);
                takeVote(said.other, weight, said.seconds);
            } else {
                solver.trust = Math.max(0, solver.trust - settings[DOWN]);
                told.missed++;
            }
        }

        private void takeVote(Part part, int weight, int seconds) {
            if (ballot.cast(part.word, part.letters, weight)) {
                Word word = words[part.word];
                word.votes++;
                word.seconds += seconds;
                lookBehindVote(part.word);
            }
        }

        private void lookBehindVote(int number) {
            if (weightLacking(number) > 0) {
                return;
            }
            Word word = words[number];
            word.kind = kindWhenAgreed(word.votes, word.seconds);
            if (word.kind == SOLVED) {
                word.letters = ballot.leadingLetters(number);
                solvedSoFar++;
            } else {
                retiredSoFar++;
            }
        }

        int kindWhenAgreed(int votes, int seconds) {
            boolean isTooSoon = votes <= settings[EARLY] || mean(seconds, votes) < settings[FAST];
            return isTooSoon ? RETIRED : SOLVED;
        }

        int weightLacking(int word) {
            int forWeight = settings[AGREE] + WEIGHT_PER_BEND * words[word].bend - ballot.leadingWeight(word);
            int forLead = settings[LEAD] - ballot.leadOf(word);
            return Math.max(0, Math.max(forWeight, forLead));
        }

        int trustBehindRight(int trust) {
            return Math.min(MOST_TRUST, trust + settings[UP]);
        }

        int rankByTrust(int solver) {
            int ahead = 0;
            for (int i = 0; i < SOLVERS; i++) {
                int more = solvers[i].trust - solvers[solver].trust;
                if (more > 0 || more == 0 && i < solver) {
                    ahead++;
                }
            }
            return ahead;
        }

        int wordsOfKind(int kind) {
            int many = 0;
            for (int i = 0; i < wordCount; i++) {
                if (words[i].kind == kind) {
                    many++;
                }
            }
            return many;
        }

        int allAnswers() {
            int all = 0;
            for (int i = 0; i < SOLVERS; i++) {
                all += solvers[i].answers;
            }
            return all;
        }

        int allRight() {
            int all = 0;
            for (int i = 0; i < SOLVERS; i++) {
                all += solvers[i].right;
            }
            return all;
        }

        int allTrust() {
            int all = 0;
            for (int i = 0; i < SOLVERS; i++) {
                all += solvers[i].trust;
            }
            return all;
        }
    }
}
