/** A new object (promise 1), and the settings (promise 2). */
public final class SettingsTest {
    private static final int COST = GarbleWords.COST, WIDE = GarbleWords.WIDE, APART = GarbleWords.APART;
    private static final int BAD_VALUE = GarbleWords.BAD_VALUE, NO_SUCH = GarbleWords.NO_SUCH;
    private static final int NONE = GarbleWords.NONE, NOT_POSSIBLE = GarbleWords.NOT_POSSIBLE;

    private static final Due due = new Due();

    public static void main(String[] args) {
        emptyBook();
        nothingWasSent();
        rangeOfCost();
        rangeOfWide();
        rangeOfApart();
        setIsAChange();
        entriesStay();
        previousValue();
        noSuchSetting();
        outOfItsRange();
        due.end();
    }

    private static void emptyBook() {
        due.promise(1, "Creates an empty book");
        GarbleWords x = new GarbleWords();
        due.is("entries", x.count(0), 0);
        due.is("least distance", x.count(5), NONE);
        due.is("entry 0", x.entry(0, 0), NO_SUCH);
        due.is("sign of entry 0", x.phraseSign(0, 0), NO_SUCH);
        due.is("pad", x.count(10), 0);
        due.is("changes", x.count(11), 0);
        due.is("undo", x.undo(), NOT_POSSIBLE);
        due.is("slot 0", x.restore(0), NOT_POSSIBLE);
        due.is("slot 1", x.restore(1), NOT_POSSIBLE);
        GarbleWords other = Due.book("go");
        due.is("objects share nothing", x.count(0), 0);
        due.is("objects share nothing", other.count(0), 1);
    }

    private static void nothingWasSent() {
        due.promise(1, "nothing was sent");
        GarbleWords x = new GarbleWords();
        for (int what = 1; what <= 4; what++) {
            due.is("count(" + what + ")", x.count(what), 0);
        }
        due.is("garbled letters", x.count(9), 0);
        due.is("letter", x.letter(0, 0), NO_SUCH);
        due.is("received", x.received(0, 0), NO_SUCH);
        due.is("garble", x.garble(0, 0, 0), NO_SUCH);
        due.is("sendAgain", x.sendAgain(), NOT_POSSIBLE);
        due.is("bestPhrase", x.bestPhrase(0), NONE);
        for (int how = 0; how <= 4; how++) {
            due.is("receivedSo(" + how + ")", x.receivedSo(how), 0);
        }
    }

    /** Each value of the range is taken, and the ones beside it are not. */
    private static void range(int setting, int lowest, int highest, int first) {
        GarbleWords x = new GarbleWords();
        due.is("the first value", x.count(6 + setting), first);
        due.is("below", x.set(setting, lowest - 1), BAD_VALUE);
        due.is("above", x.set(setting, highest + 1), BAD_VALUE);
        due.is("as it was", x.count(6 + setting), first);
        int before = first;
        for (int value = lowest; value <= highest; value++) {
            due.is("set to " + value, x.set(setting, value), before);
            due.is("set to", x.count(6 + setting), value);
            before = value;
        }
        due.is("below", x.set(setting, lowest - 1), BAD_VALUE);
        due.is("above", x.set(setting, highest + 1), BAD_VALUE);
        due.is("as it was", x.count(6 + setting), highest);
        due.is("from the highest to the lowest", x.set(setting, lowest), highest);
    }

    private static void rangeOfCost() {
        due.term("COST (1 to 99; 10)");
        range(COST, 1, 99, 10);
    }

    private static void rangeOfWide() {
        due.term("WIDE (2 to 15; 8)");
        range(WIDE, 2, 15, 8);
    }

    private static void rangeOfApart() {
        due.term("APART (1 to 4; 3)");
        range(APART, 1, 4, 3);
    }

    private static void setIsAChange() {
        due.promise(2, "This is a change.");
        GarbleWords x = new GarbleWords();
        x.set(COST, 20);
        x.set(WIDE, 5);
        x.set(APART, 2);
        due.is("each its own", x.count(6) * 100 + x.count(7) * 10 + x.count(8), 2052);
        due.is("changes", x.count(11), 3);
        due.is("the same value is a change, too", x.set(APART, 2), 2);
        due.is("changes", x.count(11), 4);
        x.undo();
        x.undo();
        due.is("undone", x.count(6) * 100 + x.count(7) * 10 + x.count(8), 2053);
    }

    private static void entriesStay() {
        due.promise(2, "Changes a setting (the entries stay, also if they are nearer than APART)");
        GarbleWords x = new GarbleWords();
        x.set(APART, 1);
        Due.enter(x, "go");
        Due.enter(x, "so/no");
        x.set(APART, 4);
        due.is("entries", x.count(0), 2);
        due.is("their distance", x.count(5), 1);
        due.is("code word 0", x.entry(0, 0), 0);
        due.is("code word 1", x.entry(1, 0), 1);
        due.phrase(x, 0, "go");
        due.phrase(x, 1, "so/no");
        due.is("they are still used", Due.send(x, "so/no"), 10);
        due.word(x, 0, "aaab");
    }

    private static void previousValue() {
        due.promise(2, "Returns the previous value");
        GarbleWords x = new GarbleWords();
        due.is("the first one", x.set(COST, 99), 10);
        due.is("the highest", x.set(COST, 1), 99);
        due.is("the lowest", x.set(COST, 1), 1);
        due.is("WIDE is another", x.set(WIDE, 15), 8);
        due.is("APART is another", x.set(APART, 4), 3);
        x.set(COST, 0);
        due.is("not a refused one", x.set(COST, 10), 1);
        x.undo();
        due.is("not an undone one", x.set(COST, 10), 1);
    }

    private static void noSuchSetting() {
        due.promise(2, "BAD_VALUE if there is no such setting");
        GarbleWords x = new GarbleWords();
        for (int setting : new int[] {-1, 3, 4, -2, Integer.MIN_VALUE, Integer.MAX_VALUE}) {
            for (int value : new int[] {0, 1, 3, 10}) {
                due.is("set(" + setting + ", " + value + ")", x.set(setting, value), BAD_VALUE);
            }
        }
        due.is("no change", x.count(11), 0);
    }

    private static void outOfItsRange() {
        due.promise(2, "or the value is out of its range");
        GarbleWords x = new GarbleWords();
        int[][] calls = {
            {COST, 0}, {COST, 100}, {COST, -10}, {WIDE, 0}, {WIDE, 1}, {WIDE, 16}, {WIDE, 99}, {WIDE, -8},
            {APART, 0}, {APART, 5}, {APART, 15}, {APART, -3}};
        for (int[] call : calls) {
            due.is("set(" + call[0] + ", " + call[1] + ")", x.set(call[0], call[1]), BAD_VALUE);
        }
        for (int setting = 0; setting < 3; setting++) {
            due.is("the least int", x.set(setting, Integer.MIN_VALUE), BAD_VALUE);
            due.is("the greatest int", x.set(setting, Integer.MAX_VALUE), BAD_VALUE);
        }
        due.is("no change", x.count(11), 0);
        due.is("COST, WIDE, APART", x.count(6) * 100 + x.count(7) * 10 + x.count(8), 1083);
    }
}
