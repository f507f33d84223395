import java.util.ArrayDeque;
import java.util.ArrayList;
import java.util.Deque;
import java.util.LinkedHashMap;
import java.util.List;
import java.util.Map;
import java.util.regex.Matcher;
import java.util.regex.Pattern;

/**
 * The document once more, in another way: each vote is kept by itself, what is lacking and what if is tried out
 * on a copy, and texts are read by a pattern. Slow, and held against BentWords by ModelTest.
 */
final class Model {
    static final int NO_SUCH = -1, BAD_VALUE = -2, BAD_TEXT = -3, TOO_MANY = -4, NOT_POSSIBLE = -5, NONE = -6;
    private static final int[][] RANGES = {{10, 400}, {0, 200}, {0, 9}, {0, 60}, {0, 20}, {0, 50}};
    private static final Pattern ANSWER = Pattern.compile(
        "([0-5]):(1[01]|[0-9])=([a-z]{1,6})\\+(1[01]|[0-9])=([a-z]{1,6})@([1-5][0-9]|60|[1-9])");

    private record Vote(String answer, int weight, int seconds) { }

    private record Said(int solver, boolean right, int seconds) { }

    private static final class Word {
        int kind, bend, missed;
        String text = "";
        List<Vote> votes = new ArrayList<>();

        Word(int kind, int bend, String text) {
            this.kind = kind;
            this.bend = bend;
            this.text = text;
        }

        Word copy() {
            Word copy = new Word(kind, bend, text);
            copy.missed = missed;
            copy.votes = new ArrayList<>(votes);
            return copy;
        }

        Map<String, Integer> weights() {
            Map<String, Integer> weights = new LinkedHashMap<>();
            for (Vote vote : votes) {
                weights.merge(vote.answer, vote.weight, Integer::sum);
            }
            return weights;
        }

        List<String> byWeight() {
            Map<String, Integer> weights = weights();
            List<String> answers = new ArrayList<>(weights.keySet());
            answers.sort((a, b) -> weights.get(b) - weights.get(a));
            return answers;
        }

        String leading() {
            return votes.isEmpty() ? "any" : byWeight().get(0);
        }

        int weight() {
            return votes.isEmpty() ? 0 : weights().get(leading());
        }

        int lead() {
            List<String> answers = byWeight();
            return answers.size() < 2 ? weight() : weight() - weights().get(answers.get(1));
        }

        int seconds() {
            return votes.isEmpty() ? 0 : votes.stream().mapToInt(Vote::seconds).sum() / votes.size();
        }

        int votesFor(String answer) {
            return (int) votes.stream().filter(vote -> vote.answer.equals(answer)).count();
        }
    }

    private static final class State {
        int[] settings = {100, 30, 2, 5, 5, 10};
        int[] trust = {50, 50, 50, 50, 50, 50};
        List<Word> words = new ArrayList<>();
        List<Said> said = new ArrayList<>();
        int retired, solved;

        State copy() {
            State copy = new State();
            copy.settings = settings.clone();
            copy.trust = trust.clone();
            words.forEach(word -> copy.words.add(word.copy()));
            copy.said = new ArrayList<>(said);
            copy.retired = retired;
            copy.solved = solved;
            return copy;
        }

        boolean isAgreedOn(Word word) {
            return word.weight() >= settings[0] + 10 * word.bend && word.lead() >= settings[1];
        }

        void lookAt(Word word) {
            if (isAgreedOn(word)) {
                boolean tooSoon = word.votes.size() <= settings[2] || word.seconds() < settings[3];
                word.kind = tooSoon ? 3 : 2;
                word.text = tooSoon ? "" : word.leading();
            }
        }
    }

    private State now = new State();
    private String pad = "";
    private final Deque<State> history = new ArrayDeque<>();
    private final State[] slots = new State[2];

    private void change() {
        history.addLast(now.copy());
        if (history.size() > 6) {
            history.removeFirst();
        }
    }

    private static boolean in(int value, int lowest, int highest) {
        return lowest <= value && value <= highest;
    }

    private boolean isWord(int word) {
        return in(word, 0, now.words.size() - 1);
    }

    int set(int setting, int value) {
        if (!in(setting, 0, 5) || !in(value, RANGES[setting][0], RANGES[setting][1])) return BAD_VALUE;
        change();
        int previous = now.settings[setting];
        now.settings[setting] = value;
        return previous;
    }

    int know(int bend) {
        if (!in(bend, 0, 9)) return BAD_VALUE;
        if (!pad.matches("[a-z]{1,6}")) return BAD_TEXT;
        if (now.words.size() == 12) return TOO_MANY;
        change();
        now.words.add(new Word(0, bend, pad));
        pad = "";
        return now.words.size() - 1;
    }

    int add(int bend) {
        if (!in(bend, 0, 9)) return BAD_VALUE;
        if (now.words.size() == 12) return TOO_MANY;
        change();
        now.words.add(new Word(1, bend, ""));
        return now.words.size() - 1;
    }

    int answer() {
        Matcher text = ANSWER.matcher(pad);
        if (!text.matches()) return BAD_TEXT;
        int solver = Integer.parseInt(text.group(1));
        int first = Integer.parseInt(text.group(2));
        int second = Integer.parseInt(text.group(4));
        int seconds = Integer.parseInt(text.group(6));
        if (!isWord(first) || !isWord(second)) return NO_SUCH;
        Word told = now.words.get(first);
        Word other = now.words.get(second);
        if (told.kind == 1 || told.kind == 3 || other.kind != 1) return NOT_POSSIBLE;
        change();
        told = now.words.get(first);
        other = now.words.get(second);
        pad = "";
        boolean right = told.text.equals(text.group(3));
        now.said.add(new Said(solver, right, seconds));
        if (!right) {
            told.missed++;
            now.trust[solver] = Math.max(0, now.trust[solver] - now.settings[5]);
            return 1;
        }
        other.votes.add(new Vote(text.group(5), now.trust[solver], seconds));
        now.trust[solver] = Math.min(100, now.trust[solver] + now.settings[4]);
        now.lookAt(other);
        if (other.kind == 2) now.solved++;
        if (other.kind == 3) now.retired++;
        return other.kind;
    }

    int bend(int word, int bend) {
        if (!isWord(word)) return NO_SUCH;
        if (!in(bend, 0, 9)) return BAD_VALUE;
        int kind = now.words.get(word).kind;
        if (kind == 0) return NOT_POSSIBLE;
        change();
        now.words.set(word, new Word(1, bend, ""));
        return kind;
    }

    int drop(int word) {
        if (!isWord(word)) return NO_SUCH;
        change();
        return now.words.remove(word).kind;
    }

    int trust(int solver, int trust) {
        if (!in(solver, 0, 5)) return NO_SUCH;
        if (!in(trust, 0, 100)) return BAD_VALUE;
        change();
        int previous = now.trust[solver];
        now.trust[solver] = trust;
        return previous;
    }

    private static int letters(String text, int what) {
        if (what == 0) return text.isEmpty() ? NONE : text.length();
        return what <= text.length() ? text.charAt(what - 1) : NONE;
    }

    int word(int word, int what) {
        if (!isWord(word)) return NO_SUCH;
        if (what < 0) return BAD_VALUE;
        Word w = now.words.get(word);
        if (what >= 8) return letters(w.text, what - 8);
        return new int[] {w.kind, w.bend, w.votes.size(), w.weights().size(), w.weight(),
            w.votes.isEmpty() ? 0 : w.lead(), w.seconds(), w.missed}[what];
    }

    int vote(int word, int answer, int what) {
        if (!isWord(word)) return NO_SUCH;
        Word w = now.words.get(word);
        if (!in(answer, 0, w.weights().size() - 1)) return NO_SUCH;
        if (what < 0) return BAD_VALUE;
        String text = new ArrayList<>(w.weights().keySet()).get(answer);
        if (what >= 3) return letters(text, what - 3);
        return new int[] {w.votesFor(text), w.weights().get(text), w.byWeight().indexOf(text)}[what];
    }

    int solver(int solver, int what) {
        if (!in(solver, 0, 5)) return NO_SUCH;
        if (!in(what, 0, 4)) return BAD_VALUE;
        List<Said> said = now.said.stream().filter(one -> one.solver == solver).toList();
        int right = (int) said.stream().filter(Said::right).count();
        int seconds = said.stream().mapToInt(Said::seconds).sum();
        List<Integer> places = new ArrayList<>(List.of(0, 1, 2, 3, 4, 5));
        places.sort((a, b) -> now.trust[b] - now.trust[a]);
        return new int[] {now.trust[solver], said.size(), right, places.indexOf(solver),
            said.isEmpty() ? 0 : seconds / said.size()}[what];
    }

    int count(int what) {
        if (!in(what, 0, 17)) return BAD_VALUE;
        if (what < 6) return now.settings[what];
        int[] kinds = new int[4];
        now.words.forEach(word -> kinds[word.kind]++);
        int trust = 0;
        for (int one : now.trust) trust += one;
        return new int[] {now.words.size(), kinds[0], kinds[1], kinds[2], kinds[3], now.said.size(),
            (int) now.said.stream().filter(Said::right).count(), now.retired, now.solved, trust,
            pad.length(), history.size()}[what - 6];
    }

    private int lackingOf(Word word) {
        for (int more = 0; ; more++) {
            Word copy = word.copy();
            if (more > 0) copy.votes.add(new Vote(word.leading(), more, 1));
            if (now.isAgreedOn(copy)) return more;
        }
    }

    int lacking(int word) {
        if (!isWord(word)) return NO_SUCH;
        if (now.words.get(word).kind != 1) return NOT_POSSIBLE;
        return lackingOf(now.words.get(word));
    }

    int answersFor(int solver, int word) {
        if (!in(solver, 0, 5) || !isWord(word)) return NO_SUCH;
        if (now.words.get(word).kind != 1) return NOT_POSSIBLE;
        Word copy = now.words.get(word).copy();
        int trust = now.trust[solver];
        for (int many = 1; many <= 100; many++) {
            copy.votes.add(new Vote(copy.leading(), trust, 1));
            if (now.isAgreedOn(copy)) return many;
            trust = Math.min(100, trust + now.settings[4]);
        }
        return NONE;
    }

    int ifVoted(int solver, int word, int seconds) {
        if (!in(solver, 0, 5) || !isWord(word)) return NO_SUCH;
        if (!in(seconds, 1, 60)) return BAD_VALUE;
        Word copy = now.words.get(word).copy();
        if (copy.kind != 1 || copy.votes.isEmpty()) return NOT_POSSIBLE;
        copy.votes.add(new Vote(copy.leading(), now.trust[solver], seconds));
        now.lookAt(copy);
        return copy.kind;
    }

    int mostMissed() {
        int found = NONE;
        for (int i = now.words.size() - 1; i >= 0; i--) {
            Word word = now.words.get(i);
            boolean isTold = word.kind == 0 || word.kind == 2;
            if (isTold && word.missed > 0 && (found == NONE || word.missed >= now.words.get(found).missed)) found = i;
        }
        return found;
    }

    int nearest() {
        int found = NONE;
        for (int i = now.words.size() - 1; i >= 0; i--) {
            Word word = now.words.get(i);
            if (word.kind == 1 && (found == NONE || lackingOf(word) <= lackingOf(now.words.get(found)))) found = i;
        }
        return found;
    }

    int put(long characters) {
        StringBuilder text = new StringBuilder();
        for (int shift = 56; shift >= 0; shift -= 8) {
            int code = (int) (characters >> shift) & 255;
            if (code == 0 && text.isEmpty()) continue;
            if (!in(code, 33, 126)) return BAD_VALUE;
            text.append((char) code);
        }
        if (text.isEmpty()) return BAD_VALUE;
        if (pad.length() + text.length() > 60) return TOO_MANY;
        pad += text;
        return pad.length();
    }

    int wipe() {
        int length = pad.length();
        pad = "";
        return length;
    }

    int fault() {
        for (int length = 1; length <= pad.length(); length++) {
            Matcher start = ANSWER.matcher(pad.substring(0, length));
            if (!start.matches() && !start.hitEnd()) return length - 1;
        }
        return ANSWER.matcher(pad).matches() ? NONE : pad.length();
    }

    int undo() {
        if (history.isEmpty()) return NOT_POSSIBLE;
        now = history.removeLast();
        return history.size();
    }

    int save(int slot) {
        if (!in(slot, 0, 1)) return BAD_VALUE;
        slots[slot] = now.copy();
        return now.words.size();
    }

    int restore(int slot) {
        if (!in(slot, 0, 1)) return BAD_VALUE;
        if (slots[slot] == null) return NOT_POSSIBLE;
        change();
        now = slots[slot].copy();
        return now.words.size();
    }
}
