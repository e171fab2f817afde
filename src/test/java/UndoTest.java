/** Promises 23 to 25: undo, and saved states. */
public final class UndoTest {
    private static final Due due = new Due();

    public static void main(String[] args) {
        promise23UndoesEachChange();
        promise23BringsBackWhatWasSent();
        promise23KeepsSixStates();
        promise23LeavesThePad();
        promise23LeavesTheSlots();
        promise24Save();
        promise25Restore();
        promise25RestoreIsAChange();
        due.end();
    }

    private static GarbleWords busy() {
        GarbleWords x = new GarbleWords();
        Due.enter(x, "go");
        Due.enter(x, "so/no");
        Due.send(x, "go/so/no/zzz");
        Due.garble(x, 2, "zzza");
        return x;
    }

    /** Everything that undo brings back, as a text. */
    private static String state(GarbleWords x) {
        StringBuilder text = new StringBuilder();
        for (int what = 0; what <= 9; what++) {
            text.append(x.count(what)).append(' ');
        }
        for (int entry = 0; entry < x.count(0); entry++) {
            for (int what = 0; what < 6; what++) {
                text.append(x.entry(entry, what)).append(' ');
            }
            for (int place = 0; x.phraseSign(entry, place) > 0; place++) {
                text.append((char) x.phraseSign(entry, place));
            }
        }
        for (int word = 0; word < x.count(2); word++) {
            text.append(' ').append(Due.word(x, word));
            for (int what = 0; what < 6; what++) {
                text.append(' ').append(x.received(word, what));
            }
        }
        return text.toString();
    }

    private static void same(String call, String got, String want) {
        due.is(call + ": " + got + " for " + want, got.equals(want) ? 1 : 0, 1);
    }

    private static int change(GarbleWords x, int kind) {
        switch (kind) {
            case 0: return x.set(GarbleWords.COST, 20);
            case 1: return Due.enter(x, "zzz");
            case 2: return x.recode(0, 1295);
            case 3: return x.drop(0);
            case 4: return Due.send(x, "go/go");
            case 5: return x.sendAgain();
            case 6: return x.garble(0, 0, 25);
            default: return x.restore(0);
        }
    }

    private static void promise23UndoesEachChange() {
        for (int kind = 0; kind <= 7; kind++) {
            GarbleWords x = new GarbleWords();
            due.is("undo without a change", x.undo(), GarbleWords.NOT_POSSIBLE);
            x.save(0);
            Due.enter(x, "go");
            Due.send(x, "go/zzz");
            x.garble(1, 0, 0);
            String before = state(x);
            due.is("change " + kind + " is done", change(x, kind) >= 0 ? 1 : 0, 1);
            due.is("change " + kind + " is seen", state(x).equals(before) ? 1 : 0, 0);
            due.is("changes then", x.count(11), 4);
            due.is("undo", x.undo(), 3);
            same("undone", state(x), before);
            due.is("undo", x.undo(), 2);
            due.is("not garbled", x.count(9), 0);
            due.is("undo", x.undo(), 1);
            due.is("not sent", x.count(1) + x.count(2) + x.count(3), 0);
            due.is("undo", x.undo(), 0);
            due.is("not entered", x.count(0), 0);
            due.is("undo", x.undo(), GarbleWords.NOT_POSSIBLE);
        }
    }

    private static void promise23BringsBackWhatWasSent() {
        GarbleWords x = busy();
        String before = state(x);
        Due.send(x, "so/no/zzzzzzzzzzzz/so/no");
        due.is("undo", x.undo(), 5);
        same("undone", state(x), before);
        x.set(GarbleWords.COST, 99);
        x.sendAgain();
        due.is("undo", x.undo(), 5);
        due.is("cost as it was sent", x.received(0, 5), 10);
        x.undo();
        same("undone", state(x), before);
    }

    private static void promise23KeepsSixStates() {
        GarbleWords x = new GarbleWords();
        for (int cost = 1; cost <= 15; cost++) {
            x.set(GarbleWords.COST, cost);
            due.is("changes", x.count(11), Math.min(6, cost));
        }
        for (int left = 5; left >= 0; left--) {
            due.is("undo", x.undo(), left);
            due.is("cost", x.count(6), 9 + left);
        }
        due.is("the older ones are gone", x.undo(), GarbleWords.NOT_POSSIBLE);
        due.is("cost", x.count(6), 9);
        x.set(GarbleWords.COST, 9);
        due.is("also if nothing is different", x.count(11), 1);
        x.set(GarbleWords.COST, 100);
        due.is("but not errors", x.count(11), 1);
        x.set(GarbleWords.COST, 50);
        due.is("undo", x.undo(), 1);
        x.set(GarbleWords.COST, 60);
        due.is("what was undone is not kept", x.undo(), 1);
        due.is("undo", x.undo(), 0);
        due.is("cost", x.count(6), 9);
    }

    private static void promise23LeavesThePad() {
        GarbleWords x = new GarbleWords();
        Due.enter(x, "go");
        Due.type(x, "so");
        x.undo();
        due.is("the pad as it is now", x.count(10), 2);
        x.enter();
        x.undo();
        due.is("not as it was before", x.count(10), 0);
    }

    private static void promise23LeavesTheSlots() {
        GarbleWords x = new GarbleWords();
        x.set(GarbleWords.COST, 20);
        x.save(0);
        x.undo();
        due.is("the slot stays", x.restore(0), 0);
        due.is("its cost", x.count(6), 20);
        x.undo();
        due.is("cost", x.count(6), 10);
        x.undo();
        due.is("still in the slot", x.restore(0) + x.count(6), 20);
    }

    private static void promise24Save() {
        GarbleWords x = busy();
        int changes = x.count(11);
        due.is("slot -1", x.save(-1), GarbleWords.BAD_VALUE);
        due.is("slot 2", x.save(2), GarbleWords.BAD_VALUE);
        due.is("slot 0", x.save(0), 2);
        x.drop(0);
        due.is("slot 1", x.save(1), 1);
        due.is("no change", x.count(11), Math.min(6, changes + 1));
        due.is("slot 0 is its own", x.restore(0), 2);
        due.is("slot 1 is its own", x.restore(1), 1);
        x.drop(0);
        due.is("written over", x.save(1), 0);
        due.is("restored", x.restore(0), 2);
        due.is("what was saved last", x.restore(1), 0);
    }

    private static void promise25Restore() {
        GarbleWords x = busy();
        due.is("slot -1", x.restore(-1), GarbleWords.BAD_VALUE);
        due.is("slot 2", x.restore(2), GarbleWords.BAD_VALUE);
        due.is("nothing saved", x.restore(0), GarbleWords.NOT_POSSIBLE);
        x.save(1);
        due.is("nothing saved in the other", x.restore(0), GarbleWords.NOT_POSSIBLE);
        String saved = state(x);
        x.set(GarbleWords.APART, 1);
        x.set(GarbleWords.WIDE, 2);
        x.drop(1);
        Due.enter(x, "zzzz");
        Due.send(x, "to/to/zzzz");
        Due.type(x, "so");
        due.is("entries", x.restore(1), 2);
        same("restored", state(x), saved);
        due.is("the pad stays", x.count(10), 2);
        x.garble(0, 0, 25);
        x.recode(0, 1295);
        due.is("the slot keeps it", x.restore(1), 2);
        same("restored again", state(x), saved);
    }

    private static void promise25RestoreIsAChange() {
        GarbleWords x = new GarbleWords();
        x.save(0);
        x.restore(1);
        due.is("an error is no change", x.count(11), 0);
        x.restore(0);
        due.is("restore is one", x.count(11), 1);
        x.set(GarbleWords.COST, 20);
        String before = state(x);
        x.restore(0);
        due.is("the history stays", x.count(11), 3);
        due.is("undo", x.undo(), 2);
        same("undone", state(x), before);
        due.is("undo", x.undo(), 1);
        due.is("cost", x.count(6), 10);
    }
}
