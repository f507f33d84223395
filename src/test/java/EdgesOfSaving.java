import java.util.function.Consumer;
import java.util.List;

/** Promises 21 to 23: undo and saved states. */
final class EdgesOfSaving {
    private EdgesOfSaving() { }

    static void addTo(Edges e) {
        e.below("Promise 21: undo");
        undo(e);
        history(e);
        e.below("Promise 22: save");
        save(e);
        e.below("Promise 23: restore");
        restore(e);
    }

    /** Each of the changes, where words 0 to 3 are of the kinds 0 to 3, and word 4 is unknown. */
    private static List<Consumer<Due>> changes() {
        return List.of(
            d -> d.due("set(0, 300)", d.x.set(0, 300), 10),
            d -> d.due("know of dog", d.know("dog", 7), 5),
            d -> d.due("add(8)", d.x.add(8), 5),
            d -> d.due("a right answer", d.right(1, 1, "a", 9), 1),
            d -> d.due("a second right answer", d.right(4, 1, "b", 60), 1),
            d -> d.due("an answer that solves", d.right(0, 4, "c", 5), 2),
            d -> d.due("an answer that retires", d.right(0, 4, "c", 4), 3),
            d -> d.due("a wrong answer", d.wrong(2, 1, "a", 9), 1),
            d -> d.due("a wrong answer to the solved one", d.answer("3:2=cat+1=a@9"), 1),
            d -> d.due("bend(1, 1)", d.x.bend(1, 1), 1),
            d -> d.due("bend(2, 1)", d.x.bend(2, 1), 2),
            d -> d.due("bend(3, 1)", d.x.bend(3, 1), 3),
            d -> d.due("drop(0)", d.x.drop(0), 0),
            d -> d.due("drop(2)", d.x.drop(2), 2),
            d -> d.due("drop(3)", d.x.drop(3), 3),
            d -> d.due("trust(5, 1)", d.x.trust(5, 1), 50),
            d -> d.due("restore(1)", d.x.restore(1), 0));
    }

    /** Words of each kind, an empty state in slot 1, and a single change that can be undone. */
    private static void kindsAndOneChange(Due d) {
        d.x = new BentWords();
        d.x.save(1);
        d.oneOfEachKind();
        d.x.add(0);
        d.x.save(0);
        for (int i = 0; i < 6; i++) {
            d.x.undo();
        }
        d.x.restore(0);
    }

    private static void undo(Edges e) {
        e.edge("everything except the pad, the slots and the history is as it was before it", d -> {
            for (Consumer<Due> change : changes()) {
                d.x = new BentWords();
                d.x.save(1);
                d.oneOfEachKind();
                d.x.add(0);
                for (int i = 0; i < 3; i++) {
                    d.right(0, 1, "a", 9);
                    d.right(1, 1, "b", 9);
                }
                d.answer("1:2=cow+1=a@9");
                d.x.bend(1, 9);
                d.x.trust(3, 10);
                d.right(3, 1, "a", 9);
                d.x.wipe();
                String before = d.everything();
                change.accept(d);
                d.x.wipe();
                d.dueCount(17, 6);
                d.due("undo()", d.x.undo(), 5);
                String behind = d.everything().replaceFirst("^((\\S+ ){17})5 ", "$16 ");
                d.due("everything is as it was", behind.compareTo(before), 0);
            }
        })
            .brokenBy("now.copyFrom(history[changes]);", "")
            .brokenBy("retiredSoFar = other.retiredSoFar;", "retiredSoFar = Math.max(retiredSoFar, other.retiredSoFar);")
            .brokenBy("missed = other.missed;", "")
            .brokenBy("trust = other.trust;", "")
            .brokenBy("answers = other.answers;", "")
            .brokenBy("right = other.right;", "")
            .brokenBy("kind = other.kind;", "")
            .brokenBy("bend = other.bend;", "")
            .brokenBy("letters = other.letters;", "")
            .brokenBy("wordCount = other.wordCount;", "")
            .brokenBy("System.arraycopy(other.settings, 0, settings, 0, SETTINGS);", "")
            .brokenBy("ballot.copyFrom(other.ballot);", "")
            .brokenBy("System.arraycopy(other.votes, 0, votes, 0, size);", "")
            .brokenBy("System.arraycopy(other.weights, 0, weights, 0, size);", "");

        e.edge("everything except the pad, the slots and the history is as it was before it", d -> {
            d.know("cat", 0);
            d.pad("dog");
            d.due("undo() of know", d.x.undo(), 0);
            d.dueCount(6, 0);
            d.dueCount(16, 3);
            d.due("know of the pad that is still there", d.x.know(0), 0);
            d.dueLetters(0, "dog");
            d.due("undo() of know once more", d.x.undo(), 0);
            d.dueCount(16, 0);
            d.x.add(1);
            d.x.save(0);
            d.x.add(2);
            d.x.save(1);
            d.x.undo();
            d.x.undo();
            d.dueCount(6, 0);
            d.due("restore(0) behind undo", d.x.restore(0), 1);
            d.due("restore(1) behind undo", d.x.restore(1), 2);
            d.due("undo()", d.x.undo(), 1);
            d.dueCount(6, 1);
        })
            .brokenBy("public int undo", "changes--;", "changes--; pad.length = 0;")
            .brokenBy("public int undo", "changes--;", "changes--; saved[1] = false;")
            .brokenBy("public int undo", "return changes;", "changes = Math.max(changes - 1, 0); return changes;")
            .brokenBy("slots[slot].copyFrom(now);", "slots[slot].copyFrom(now); if (slot == 0) { slots[0] = now; }");

        e.edge("Returns how many changes can be undone then", d -> {
            for (int i = 0; i < 9; i++) {
                d.x.add(i);
            }
            for (int i = 5; i >= 0; i--) {
                d.due("undo()", d.x.undo(), i);
                d.dueCount(17, i);
                d.dueCount(6, 3 + i);
            }
        })
            .brokenBy("public int undo", "return changes;", "return changes + 1;")
            .brokenBy("public int undo", "return changes;", "return changes == 0 ? NONE : changes;");

        e.edge("NOT_POSSIBLE if there is none", d -> {
            d.due("undo() at first", d.x.undo(), BentWords.NOT_POSSIBLE);
            d.x.add(0);
            d.due("undo()", d.x.undo(), 0);
            d.due("undo() once more", d.x.undo(), BentWords.NOT_POSSIBLE);
            d.dueCount(6, 0);
            for (int i = 0; i < 7; i++) {
                d.x.add(0);
            }
            for (int i = 0; i < 6; i++) {
                d.x.undo();
            }
            d.due("a seventh undo()", d.x.undo(), BentWords.NOT_POSSIBLE);
            d.dueCount(6, 1);
        })
            .brokenBy("public int undo", "changes == 0", "changes < 0")
            .brokenBy("public int undo", "NOT_POSSIBLE", "NONE");
    }

    private static void history(Edges e) {
        e.edge("A history of at most 6 states is kept", d -> {
            for (int i = 0; i < 20; i++) {
                d.x.set(BentWords.AGREE, 11 + i);
                d.dueCount(17, Math.min(6, i + 1));
            }
            for (int i = 0; i < 6; i++) {
                d.due("undo() " + i, d.x.undo(), 5 - i);
                d.dueCount(0, 29 - i);
            }
            d.due("a seventh undo()", d.x.undo(), BentWords.NOT_POSSIBLE);
        })
            .brokenBy("MOST_CHANGES = 6", "6", "5")
            .brokenBy("MOST_CHANGES = 6", "6", "7");

        e.edge("each method that is a change, and returns no error, records the state before it", d -> {
            for (Consumer<Due> change : changes()) {
                kindsAndOneChange(d);
                d.dueCount(17, 1);
                change.accept(d);
                d.dueCount(17, 2);
                d.due("undo()", d.x.undo(), 1);
            }
        })
            .brokenBy("public int set", "remember();", "")
            .brokenBy("public int know", "remember();", "")
            .brokenBy("public int add", "remember();", "")
            .brokenBy("public int answer()", "remember();", "")
            .brokenBy("public int bend", "remember();", "")
            .brokenBy("public int drop", "remember();", "")
            .brokenBy("public int trust", "remember();", "")
            .brokenBy("public int restore", "remember();", "")
            .brokenBy("public int answer()", "remember();",
                "if (now.words[reading.told.word].letters == reading.told.letters) { remember(); }");

        e.edge("each method that is a change, and returns no error, records the state before it", d -> {
            kindsAndOneChange(d);
            d.due("put", d.x.put('a'), 1);
            d.due("a refused know", d.x.know(10), BentWords.BAD_VALUE);
            d.due("a refused answer", d.x.answer(), BentWords.BAD_TEXT);
            d.due("fault()", d.x.fault(), 0);
            d.due("wipe()", d.x.wipe(), 1);
            d.due("save(0)", d.x.save(0), 5);
            d.due("a refused set", d.x.set(0, 0), BentWords.BAD_VALUE);
            d.due("a refused bend", d.x.bend(0, 0), BentWords.NOT_POSSIBLE);
            d.due("a refused drop", d.x.drop(5), BentWords.NO_SUCH);
            d.due("a refused trust", d.x.trust(0, 101), BentWords.BAD_VALUE);
            d.due("a refused restore", d.x.restore(2), BentWords.BAD_VALUE);
            d.everything();
            d.x.answersFor(0, 1);
            d.x.ifVoted(0, 1, 9);
            d.x.lacking(1);
            d.x.nearest();
            d.x.mostMissed();
            d.dueCount(17, 1);
            d.due("undo()", d.x.undo(), 0);
            d.due("undo() once more", d.x.undo(), BentWords.NOT_POSSIBLE);
        })
            .brokenBy("public int save", "saved[slot] = true;", "saved[slot] = true; remember();")
            .brokenBy("public int wipe", "pad.length = 0;", "pad.length = 0; remember();")
            .brokenBy("public int put", "return pad.length;", "remember(); return pad.length;")
            .brokenBy("public int undo", "return changes;", "int left = changes; changes = 1; return left;")
            .brokenBy("public int drop", "return NO_SUCH;", "remember(); return NO_SUCH;")
            .brokenBy("public int lacking(", "return now.weight", "remember(); return now.weight");

        e.edge("(also if nothing is different then)", d -> {
            d.due("set(0, 100)", d.x.set(0, 100), 100);
            d.dueCount(17, 1);
            d.due("trust(0, 50)", d.x.trust(0, 50), 50);
            d.dueCount(17, 2);
            d.x.add(4);
            d.due("bend(0, 4)", d.x.bend(0, 4), 1);
            d.dueCount(17, 4);
            d.x.save(0);
            d.due("restore(0)", d.x.restore(0), 1);
            d.dueCount(17, 5);
            d.due("undo()", d.x.undo(), 4);
            d.due("undo()", d.x.undo(), 3);
            d.dueCount(6, 1);
            d.due("undo()", d.x.undo(), 2);
            d.dueCount(6, 0);
        })
            .brokenBy("public int set", "remember();", "if (now.settings[setting] != value) { remember(); }")
            .brokenBy("public int trust", "remember();", "if (now.solvers[solver].trust != trust) { remember(); }")
            .brokenBy("public int bend", "remember();", "if (now.words[word].votes > 0) { remember(); }")
            .brokenBy("public int restore", "remember();", "if (now.wordCount != slots[slot].wordCount) { remember(); }");

        e.edge("when one more is recorded, the oldest one is dropped", d -> {
            for (int i = 0; i < 7; i++) {
                d.due("add(" + i + ")", d.x.add(i), i);
            }
            for (int i = 6; i > 0; i--) {
                d.x.undo();
                d.dueCount(6, i);
                d.due("the last word's bend", d.x.word(i - 1, 1), i - 1);
                d.due("the dropped word", d.x.word(i, 1), BentWords.NO_SUCH);
            }
            d.due("undo()", d.x.undo(), BentWords.NOT_POSSIBLE);
            for (int i = 1; i < 12; i++) {
                d.due("add(9)", d.x.add(9), i);
            }
            for (int i = 11; i > 5; i--) {
                d.x.undo();
                d.dueCount(6, i);
            }
            d.due("undo()", d.x.undo(), BentWords.NOT_POSSIBLE);
        })
            .brokenBy("history[MOST_CHANGES - 1] = oldest;", "")
            .brokenBy("private void remember", "int i = 1;", "int i = 2;")
            .brokenBy("private void remember", "changes == MOST_CHANGES", "changes == MOST_CHANGES - 1");
    }

    private static void save(Edges e) {
        e.edge("Saves everything except the pad, the history and the slots in a slot, and overwrites what was saved there", d -> {
            d.oneOfEachKind();
            d.answer("5:2=x+1=a@9");
            d.answer("5:2=dog+1=a@9");
            d.pad("six");
            d.due("save(0)", d.x.save(0), 4);
            d.dueCount(16, 3);
            d.dueCount(17, 6);
            String saved = d.everything();
            for (int i = 0; i < 4; i++) {
                d.x.drop(0);
                d.x.set(i, 50);
                d.x.set(2 + i, 9);
                d.x.trust(i, i);
            }
            d.x.know(0);
            d.answer("3:0=six+0=a@9");
            d.pad("six");
            d.due("restore(0)", d.x.restore(0), 4);
            d.due("everything is as it was saved", d.everything().compareTo(saved), 0);
            d.pad("seven");
            d.x.drop(3);
            d.due("save(0) over it", d.x.save(0), 3);
            d.x.drop(0);
            d.due("restore(0)", d.x.restore(0), 3);
            d.dueCount(16, 5);
            d.due("restore(1)", d.x.restore(1), BentWords.NOT_POSSIBLE);
        })
            .brokenBy("slots[slot].copyFrom(now);", "if (!saved[slot]) { slots[slot].copyFrom(now); }")
            .brokenBy("public int restore", "remember();", "remember(); pad.length = 0;")
            .brokenBy("slots[slot].copyFrom(now);", "slots[slot].copyFrom(now); pad.length = 0;")
            .brokenBy("slots[slot].copyFrom(now);", "slots[slot].copyFrom(now); changes = 0;")
            .brokenBy("slots[slot].copyFrom(now);", "slots[slot].copyFrom(now); saved[1] = true;");

        e.edge("slot: 0 or 1", d -> {
            d.x.add(1);
            d.due("save(0)", d.x.save(0), 1);
            d.x.add(2);
            d.due("save(1)", d.x.save(1), 2);
            d.x.add(3);
            d.due("restore(0)", d.x.restore(0), 1);
            d.due("restore(1)", d.x.restore(1), 2);
            d.dueCount(6, 2);
        })
            .brokenBy("public int save", "isWithin(slot, 0, SLOTS - 1)", "isWithin(slot, 1, SLOTS - 1)")
            .brokenBy("public int save", "isWithin(slot, 0, SLOTS - 1)", "isWithin(slot, 0, SLOTS - 2)")
            .brokenBy("slots[slot].copyFrom(now);", "slots[0].copyFrom(now);");

        e.edge("Returns how many words there are", d -> {
            for (int i = 0; i <= 12; i++) {
                d.due("save(" + i % 2 + ")", d.x.save(i % 2), i);
                d.x.add(0);
            }
        })
            .brokenBy("public int save", "return now.wordCount;", "return Math.max(1, now.wordCount);")
            .brokenBy("public int save", "return now.wordCount;", "return Math.min(11, now.wordCount);");

        e.edge("BAD_VALUE if there is no such slot", d -> {
            int[] slots = {-1, 2, Integer.MIN_VALUE, Integer.MAX_VALUE};
            for (int slot : slots) {
                d.due("save(" + slot + ")", d.x.save(slot), BentWords.BAD_VALUE);
            }
            d.due("restore(0)", d.x.restore(0), BentWords.NOT_POSSIBLE);
            d.due("restore(1)", d.x.restore(1), BentWords.NOT_POSSIBLE);
        })
            .brokenBy("public int save", "!isWithin(slot, 0, SLOTS - 1)", "slot < 0")
            .brokenBy("public int save", "!isWithin(slot, 0, SLOTS - 1)", "slot >= SLOTS")
            .brokenBy("public int save", "isWithin(slot, 0, SLOTS - 1)", "isWithin(slot, 0, SLOTS)")
            .brokenBy("public int save", "BAD_VALUE", "NO_SUCH");
    }

    private static void restore(Edges e) {
        e.edge("Restores what was saved last in a slot, which keeps it", d -> {
            d.catAnd(9);
            d.right(0, 1, "a", 9);
            d.x.save(1);
            d.x.trust(1, 1);
            d.x.save(1);
            for (int round = 0; round < 3; round++) {
                d.x.trust(1, 99);
                d.x.add(0);
                d.right(0, 1, "b", 9);
                d.x.bend(1, 0);
                d.due("restore(1), round " + round, d.x.restore(1), 2);
                d.dueSolver(1, 1, 0, 0);
                d.dueSolver(0, 55, 1, 1);
                d.dueWord(1, 1, 9, 1, 1, 50, 50, 9);
            }
            d.x.undo();
            d.dueWord(1, 1, 0, 0);
            d.due("restore(1) behind undo", d.x.restore(1), 2);
            d.dueWord(1, 1, 9, 1, 1, 50, 50, 9);
        })
            .brokenBy("public int restore", "return now.wordCount;", "saved[slot] = false; return now.wordCount;")
            .brokenBy("slots[slot].copyFrom(now);", "if (!saved[slot]) { slots[slot].copyFrom(now); }")
            .brokenBy("public int restore", "remember();",
                "remember(); State last = slots[slot]; slots[slot] = history[changes - 1]; history[changes - 1] = last;");

        e.edge("This is a change", d -> {
            d.x.save(0);
            d.due("restore(0)", d.x.restore(0), 0);
            d.dueCount(17, 1);
            d.x.add(0);
            d.due("restore(0)", d.x.restore(0), 0);
            d.dueCount(17, 3);
            d.due("undo()", d.x.undo(), 2);
            d.dueCount(6, 1);
        }).brokenBy("public int restore", "remember();", "");

        e.edge("slot: 0 or 1", d -> {
            d.x.save(0);
            d.due("restore(0)", d.x.restore(0), 0);
            d.x.add(0);
            d.x.save(1);
            d.due("restore(0)", d.x.restore(0), 0);
            d.due("restore(1)", d.x.restore(1), 1);
        })
            .brokenBy("public int restore", "isWithin(slot, 0, SLOTS - 1)", "isWithin(slot, 1, SLOTS - 1)")
            .brokenBy("public int restore", "isWithin(slot, 0, SLOTS - 1)", "isWithin(slot, 0, SLOTS - 2)");

        e.edge("Returns how many words there are then", d -> {
            d.x.save(0);
            for (int i = 0; i < 12; i++) {
                d.x.add(0);
            }
            d.x.save(1);
            d.due("restore(0)", d.x.restore(0), 0);
            d.due("restore(1)", d.x.restore(1), 12);
        })
            .brokenBy("public int restore", "return now.wordCount;", "return history[changes - 1].wordCount;")
            .brokenBy("public int restore", "return now.wordCount;", "return changes;");

        e.edge("BAD_VALUE if there is no such slot; NOT_POSSIBLE if nothing was saved in it", d -> {
            int[] slots = {-1, 2, Integer.MIN_VALUE, Integer.MAX_VALUE};
            for (int slot : slots) {
                d.due("restore(" + slot + ")", d.x.restore(slot), BentWords.BAD_VALUE);
            }
            d.x.add(0);
            d.due("restore(0)", d.x.restore(0), BentWords.NOT_POSSIBLE);
            d.x.save(1);
            d.due("restore(0) with slot 1 saved", d.x.restore(0), BentWords.NOT_POSSIBLE);
            d.due("restore(1)", d.x.restore(1), 1);
            d.due("restore(2)", d.x.restore(2), BentWords.BAD_VALUE);
            d.x.save(0);
            d.due("restore(0)", d.x.restore(0), 1);
        })
            .brokenBy("public int restore", "!isWithin(slot, 0, SLOTS - 1)", "slot < 0")
            .brokenBy("public int restore", "!isWithin(slot, 0, SLOTS - 1)", "slot >= SLOTS")
            .brokenBy("public int restore", "!saved[slot]", "!saved[0] && !saved[1]")
            .brokenBy("public int restore", "!saved[slot]", "false")
            .brokenBy("public int restore", "BAD_VALUE", "NO_SUCH");
    }
}
