/** Undo, and saved states (promises 23 to 25). */
public final class UndoTest {
    private static final int BAD_VALUE = GarbleWords.BAD_VALUE, NOT_POSSIBLE = GarbleWords.NOT_POSSIBLE;
    private static final int COST = GarbleWords.COST, WIDE = GarbleWords.WIDE, APART = GarbleWords.APART;
    private static final int CHANGES = 8;

    private static final Due due = new Due();

    public static void main(String[] args) {
        undoesEachChange();
        undoesAllOfAState();
        leavesThePad();
        leavesTheSlots();
        leavesTheHistory();
        keepsSixStates();
        recordsEachChange();
        recordsNoErrors();
        recordsNothingElse();
        dropsTheOldest();
        undoReturnsHowMany();
        undoNotPossible();
        savesEverything();
        savesNeitherPadNorHistory();
        overwrites();
        slotsAreTwo();
        saveReturnsTheEntries();
        saveNoSlot();
        restores();
        restoresTwoSlots();
        restoresWhatWasSavedLast();
        slotKeepsIt();
        restoreIsAChange();
        restoreReturnsTheEntries();
        restoreNoSlot();
        restoreNothing();
        due.end();
    }

    /** An object with a book, a message and a garbled letter. */
    private static GarbleWords busy() {
        GarbleWords x = Due.book("go", "so/no");
        Due.send(x, "go/so/no/zzz");
        x.garble(2, 0, 0);
        return x;
    }

    private static int change(GarbleWords x, int kind) {
        switch (kind) {
            case 0: return x.set(COST, 20);
            case 1: return Due.enter(x, "zzz");
            case 2: return x.recode(0, 1295);
            case 3: return x.drop(0);
            case 4: return Due.send(x, "go/go");
            case 5: return x.sendAgain();
            case 6: return x.garble(0, 0, 25);
            default: return x.restore(0);
        }
    }

    private static void undoesEachChange() {
        due.promise(23, "Undoes the latest change: everything except the pad, the slots and the history is as it was"
            + " before it.");
        for (int kind = 0; kind < CHANGES; kind++) {
            GarbleWords x = new GarbleWords();
            x.save(0);
            Due.enter(x, "go");
            Due.send(x, "go/zzz");
            x.garble(1, 0, 0);
            String before = Due.state(x);
            due.yes("change " + kind + " is done", change(x, kind) >= 0);
            due.yes("change " + kind + " is seen", !Due.state(x).equals(before));
            x.undo();
            due.same("undone " + kind, Due.state(x), before);
            x.undo();
            due.is("not garbled", x.count(9), 0);
            x.undo();
            due.is("not sent", x.count(1) + x.count(2) + x.count(3), 0);
            x.undo();
            due.is("not entered", x.count(0), 0);
        }
    }

    private static void undoesAllOfAState() {
        due.promise(23, "everything except the pad, the slots and the history is as it was before it.");
        GarbleWords x = busy();
        String before = Due.state(x);
        Due.send(x, "so/no/zzzzzzzzzzzz/so/no");
        x.undo();
        due.same("another message", Due.state(x), before);
        x.set(COST, 99);
        x.sendAgain();
        x.undo();
        due.is("cost as it was sent", x.received(0, 5), 10);
        x.undo();
        due.same("another cost", Due.state(x), before);
        x.drop(0);
        x.drop(0);
        Due.enter(x, "mmmm/kkkk/llll");
        x.undo();
        x.undo();
        x.undo();
        due.same("another book", Due.state(x), before);
    }

    private static void leavesThePad() {
        due.promise(23, "everything except the pad");
        GarbleWords x = new GarbleWords();
        Due.enter(x, "go");
        Due.type(x, "so");
        x.undo();
        due.is("as it is now", x.count(10), 2);
        x.enter();
        due.phrase(x, 0, "so");
        x.undo();
        due.is("still empty", x.count(10), 0);
        Due.send(x, "go");
        x.undo();
        due.is("still empty", x.count(10), 0);
    }

    private static void leavesTheSlots() {
        due.promise(23, "everything except the pad, the slots");
        GarbleWords x = new GarbleWords();
        x.set(COST, 20);
        x.save(0);
        x.set(COST, 30);
        x.save(1);
        x.undo();
        x.undo();
        due.is("slot 0 stays", x.restore(0) + x.count(6), 20);
        x.undo();
        due.is("as it was", x.count(6), 10);
        due.is("slot 1 stays", x.restore(1) + x.count(6), 30);
        x.undo();
        due.is("slot 0 stays", x.restore(0) + x.count(6), 20);
    }

    private static void leavesTheHistory() {
        due.promise(23, "everything except the pad, the slots and the history");
        GarbleWords x = new GarbleWords();
        x.set(COST, 20);
        x.set(COST, 30);
        x.set(COST, 40);
        x.undo();
        due.is("it is one shorter", x.count(11), 2);
        due.is("the one before", x.count(6), 30);
        x.set(COST, 50);
        due.is("and one longer", x.count(11), 3);
        x.undo();
        due.is("not what was undone", x.count(6), 30);
        x.undo();
        due.is("20", x.count(6), 20);
        x.undo();
        due.is("10", x.count(6), 10);
    }

    private static void keepsSixStates() {
        due.promise(23, "A history of at most 6 states is kept:");
        for (int changes = 1; changes <= 20; changes++) {
            GarbleWords x = new GarbleWords();
            for (int cost = 1; cost <= changes; cost++) {
                x.set(COST, cost);
            }
            int kept = Math.min(6, changes);
            due.is("after " + changes, x.count(11), kept);
            for (int undone = 1; undone <= kept; undone++) {
                due.is("undo", x.undo(), kept - undone);
                due.is("cost", x.count(6), changes == undone ? 10 : changes - undone);
            }
            due.is("no more", x.undo(), NOT_POSSIBLE);
            due.is("cost", x.count(6), changes == kept ? 10 : changes - kept);
        }
    }

    private static void recordsEachChange() {
        due.promise(23, "each method that is a change, and returns no error, records the state before it (also if"
            + " nothing is different then);");
        for (int kind = 0; kind < CHANGES; kind++) {
            GarbleWords x = new GarbleWords();
            Due.enter(x, "go");
            Due.send(x, "go/zzz");
            x.save(0);
            due.yes("change " + kind + " is done", change(x, kind) >= 0);
            due.is("change " + kind + " is recorded", x.count(11), 3);
        }
        GarbleWords x = Due.book("go");
        Due.send(x, "go");
        x.save(1);
        x.set(COST, 10);
        x.recode(0, 0);
        x.sendAgain();
        x.garble(0, 0, 0);
        due.is("nothing is different, four times", x.count(11), 6);
        x.undo();
        x.undo();
        x.restore(1);
        Due.send(x, "go");
        due.is("nothing is different, twice more", x.count(11), 6);
    }

    private static void recordsNoErrors() {
        due.promise(23, "and returns no error");
        GarbleWords x = Due.book("go", "so");
        Due.send(x, "go");
        x.set(COST, 0);
        x.enter();
        Due.enter(x, "go");
        x.recode(2, 0);
        x.recode(0, 1296);
        x.recode(0, 43);
        x.drop(2);
        x.wipe();
        x.send();
        x.garble(1, 0, 0);
        x.garble(0, 0, 26);
        x.restore(0);
        x.restore(2);
        due.is("changes", x.count(11), 3);
        x.undo();
        due.is("the message was the latest one", x.count(1), 0);
        x.sendAgain();
        due.is("changes", x.count(11), 2);
    }

    private static void recordsNothingElse() {
        due.promise(23, "each method that is a change");
        GarbleWords x = busy();
        x.undo();
        int changes = x.count(11);
        Due.type(x, "go/so");
        x.fault();
        x.costOf();
        Due.state(x);
        x.distance(0, 1);
        x.wipe();
        x.save(0);
        x.save(1);
        due.is("changes", x.count(11), changes);
    }

    private static void dropsTheOldest() {
        due.promise(23, "when one more is recorded, the oldest one is dropped.");
        GarbleWords x = new GarbleWords();
        for (int cost = 21; cost <= 27; cost++) {
            x.set(COST, cost);
        }
        for (int left = 5; left >= 0; left--) {
            due.is("undo", x.undo(), left);
        }
        due.is("the first one cannot be undone", x.undo(), NOT_POSSIBLE);
        due.is("cost", x.count(6), 21);
        x.set(WIDE, 2);
        due.is("anew", x.undo() * 10 + x.count(7), 8);
    }

    private static void undoReturnsHowMany() {
        due.promise(23, "Returns how many changes can be undone then");
        GarbleWords x = Due.fullBook();
        for (int left = 5; left >= 0; left--) {
            due.is("undo", x.undo(), left);
            due.is("entries", x.count(0), 10 + left);
        }
        x.drop(0);
        due.is("one", x.undo(), 0);
    }

    private static void undoNotPossible() {
        due.promise(23, "NOT_POSSIBLE if there is none.");
        GarbleWords x = new GarbleWords();
        due.is("a new object", x.undo(), NOT_POSSIBLE);
        Due.enter(x, "go/");
        x.save(0);
        due.is("without a change", x.undo(), NOT_POSSIBLE);
        Due.enter(x, "go");
        due.is("the only one", x.undo(), 0);
        due.is("no more", x.undo(), NOT_POSSIBLE);
        due.is("still none", x.undo(), NOT_POSSIBLE);
        Due.enter(x, "go");
        due.is("the only one", x.undo(), 0);
    }

    private static void savesEverything() {
        due.promise(24, "Saves everything");
        GarbleWords x = busy();
        x.set(COST, 30);
        x.set(WIDE, 3);
        x.set(APART, 2);
        String saved = Due.state(x);
        x.save(1);
        x.set(COST, 99);
        x.set(WIDE, 15);
        x.set(APART, 1);
        x.drop(1);
        x.recode(0, 1295);
        Due.send(x, "z/z/z/z/z");
        x.restore(1);
        due.same("restored", Due.state(x), saved);
    }

    private static void savesNeitherPadNorHistory() {
        due.promise(24, "except the pad, the history and the slots");
        GarbleWords x = new GarbleWords();
        x.set(COST, 20);
        Due.type(x, "go");
        x.save(0);
        x.save(1);
        due.is("the pad stays", x.count(10), 2);
        due.is("the history stays", x.count(11), 1);
        Due.type(x, "so/no");
        x.set(COST, 30);
        x.save(1);
        x.restore(0);
        due.is("the pad of now", x.count(10), 5);
        due.is("the history of now", x.count(11), 3);
        due.is("the other slot of now", x.restore(1) + x.count(6), 30);
        x.undo();
        x.undo();
        due.is("30", x.count(6), 30);
    }

    private static void overwrites() {
        due.promise(24, "in a slot, and overwrites what was saved there.");
        GarbleWords x = Due.book("go", "so");
        x.save(0);
        x.drop(0);
        x.save(1);
        x.drop(0);
        x.save(1);
        due.is("the other slot is its own", x.restore(0), 2);
        due.is("this one was written over", x.restore(1), 0);
        x.restore(0);
        x.save(1);
        due.is("and again", x.restore(1), 2);
        due.phrase(x, 0, "go");
    }

    private static void slotsAreTwo() {
        due.promise(24, "slot: 0 or 1");
        GarbleWords x = Due.book("go");
        due.is("slot 0", x.save(0), 1);
        due.is("slot 1", x.save(1), 1);
        due.is("slot -1", x.save(-1), BAD_VALUE);
        due.is("slot 2", x.save(2), BAD_VALUE);
    }

    private static void saveReturnsTheEntries() {
        due.promise(24, "Returns how many entries there are");
        GarbleWords x = new GarbleWords();
        due.is("an empty book", x.save(0), 0);
        due.is("a full one", Due.fullBook().save(1), 16);
        x = busy();
        due.is("two", x.save(0), 2);
        x.drop(0);
        due.is("one", x.save(0), 1);
    }

    private static void saveNoSlot() {
        due.promise(24, "BAD_VALUE if there is no such slot.");
        GarbleWords x = Due.book("go");
        for (int slot : new int[] {-1, 2, 3, Integer.MIN_VALUE, Integer.MAX_VALUE}) {
            due.is("save(" + slot + ")", x.save(slot), BAD_VALUE);
        }
        due.is("nothing was saved", x.restore(0), NOT_POSSIBLE);
        due.is("nothing was saved", x.restore(1), NOT_POSSIBLE);
    }

    private static void restores() {
        due.promise(25, "Restores what was saved");
        GarbleWords x = busy();
        x.save(1);
        String saved = Due.state(x);
        x.set(APART, 1);
        x.set(WIDE, 2);
        x.drop(1);
        Due.enter(x, "zzzz");
        Due.send(x, "to/to/zzzz");
        Due.type(x, "so");
        x.restore(1);
        due.same("restored", Due.state(x), saved);
        due.is("the pad stays", x.count(10), 2);
    }

    private static void restoresTwoSlots() {
        due.promise(25, "slot: 0 or 1");
        GarbleWords x = Due.book("go");
        x.save(1);
        x.drop(0);
        x.save(0);
        due.is("slot 1", x.restore(1), 1);
        due.is("slot 0", x.restore(0), 0);
        due.is("slot -1", x.restore(-1), BAD_VALUE);
        due.is("slot 2", x.restore(2), BAD_VALUE);
    }

    private static void restoresWhatWasSavedLast() {
        due.promise(25, "last in a slot");
        GarbleWords x = new GarbleWords();
        for (int cost = 1; cost <= 9; cost++) {
            x.set(COST, cost);
            x.save(cost % 2);
        }
        due.is("slot 0", x.restore(0) + x.count(6), 8);
        due.is("slot 1", x.restore(1) + x.count(6), 9);
        due.is("slot 0", x.restore(0) + x.count(6), 8);
    }

    private static void slotKeepsIt() {
        due.promise(25, "which keeps it.");
        GarbleWords x = busy();
        x.save(0);
        String saved = Due.state(x);
        for (int kind = 0; kind < CHANGES; kind++) {
            x.restore(0);
            due.yes("change " + kind + " is done", change(x, kind) >= 0);
            x.restore(0);
            due.same("restored behind change " + kind, Due.state(x), saved);
            x.undo();
            x.undo();
        }
        x.restore(0);
        due.same("restored behind undo", Due.state(x), saved);
    }

    private static void restoreIsAChange() {
        due.promise(25, "This is a change.");
        GarbleWords x = new GarbleWords();
        x.save(0);
        x.restore(0);
        due.is("also if nothing is different", x.count(11), 1);
        x.set(COST, 20);
        String before = Due.state(x);
        x.restore(0);
        due.is("the history stays, and is longer", x.count(11), 3);
        due.is("undo", x.undo(), 2);
        due.same("undone", Due.state(x), before);
        due.is("undo", x.undo(), 1);
        due.is("cost", x.count(6), 10);
    }

    private static void restoreReturnsTheEntries() {
        due.promise(25, "Returns how many entries there are then");
        GarbleWords x = new GarbleWords();
        x.save(0);
        Due.enter(x, "go");
        Due.enter(x, "so");
        x.save(1);
        Due.enter(x, "no");
        due.is("none", x.restore(0), 0);
        due.is("two", x.restore(1), 2);
        GarbleWords full = Due.fullBook();
        full.save(0);
        full.drop(0);
        due.is("sixteen", full.restore(0), 16);
    }

    private static void restoreNoSlot() {
        due.promise(25, "BAD_VALUE if there is no such slot");
        GarbleWords x = new GarbleWords();
        x.save(0);
        x.save(1);
        for (int slot : new int[] {-1, 2, 3, Integer.MIN_VALUE, Integer.MAX_VALUE}) {
            due.is("restore(" + slot + ")", x.restore(slot), BAD_VALUE);
        }
        due.is("no change", x.count(11), 0);
    }

    private static void restoreNothing() {
        due.promise(25, "NOT_POSSIBLE if nothing was saved in it.");
        GarbleWords x = busy();
        due.is("slot 0", x.restore(0), NOT_POSSIBLE);
        due.is("slot 1", x.restore(1), NOT_POSSIBLE);
        x.save(1);
        due.is("slot 0, still", x.restore(0), NOT_POSSIBLE);
        due.is("slot 1, now", x.restore(1), 2);
        GarbleWords y = new GarbleWords();
        y.save(0);
        due.is("slot 1, still", y.restore(1), NOT_POSSIBLE);
        due.is("a saved new object is something", y.restore(0), 0);
    }
}
