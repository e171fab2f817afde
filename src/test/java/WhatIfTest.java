/** Promises 15 to 19: what if. */
public final class WhatIfTest {
    private static final Due due = new Due();
    private static final int NONE = GarbleWords.NONE;

    public static void main(String[] args) {
        promise15CostOf();
        promise16Saves();
        promise17BestPhrase();
        promise17BestPhraseTies();
        promise18Left();
        promise19Distance();
        due.end();
    }

    private static void promise15CostOf() {
        GarbleWords x = new GarbleWords();
        due.is("empty", x.costOf(), GarbleWords.BAD_TEXT);
        due.is("a fault", Due.costOf(x, "go/"), GarbleWords.BAD_TEXT);
        due.is("plain", Due.costOf(x, "go/ghijklmnop"), 30);
        due.is("the pad stays", x.count(10), 13);
        due.is("nothing was sent", x.count(1), 0);
        Due.enter(x, "go/ghijklmnop");
        due.is("by the book", Due.costOf(x, "so/go/ghijklmnop/go"), 30);
        x.set(GarbleWords.COST, 3);
        due.is("by the settings", x.costOf(), 9);
        due.is("as it is sent", x.send(), 9);
        due.is("no change", x.count(11), 3);
        due.is("more than three words", Due.costOf(x, "g/h/i/j/k/l/m/n/o/p/q/r"), 36);
        x.set(GarbleWords.WIDE, 2);
        due.is("a code word for a long word", Due.enter(x, "ghij"), 43);
        due.is("is cheaper", Due.costOf(x, "ghij"), 3);
    }

    private static void promise16Saves() {
        GarbleWords x = new GarbleWords();
        due.is("no entry", x.saves(0), GarbleWords.NO_SUCH);
        Due.enter(x, "go/so");
        due.is("no message", x.saves(0), GarbleWords.NOT_POSSIBLE);
        due.is("no entry", x.saves(1), GarbleWords.NO_SUCH);
        due.is("no entry", x.saves(-1), GarbleWords.NO_SUCH);
        Due.send(x, "go/so/go/so/ghijklmnop");
        due.is("twice ten", x.saves(0), 20);
        Due.enter(x, "so/go");
        due.is("not needed", x.saves(1), 0);
        due.is("only partly replaced", x.saves(0), 10);
        Due.enter(x, "ghijklmnop");
        due.is("by the book of now", x.saves(2), 10);
        x.set(GarbleWords.WIDE, 2);
        due.is("by the settings of now", x.saves(2), 40);
        due.is("nothing is sent", x.count(3), 40);
        due.is("no change", x.count(11), 5);
        due.is("an entry that does not stand in it", Due.enter(x, "zz") + x.saves(3), 129);
    }

    private static void best(GarbleWords x, int first, int words, int cost) {
        due.is("bestPhrase(0)", x.bestPhrase(0), first);
        due.is("bestPhrase(1)", x.bestPhrase(1), words);
        due.is("bestPhrase(2)", x.bestPhrase(2), cost);
    }

    private static void promise17BestPhrase() {
        GarbleWords x = new GarbleWords();
        best(x, NONE, NONE, NONE);
        due.is("what -1", x.bestPhrase(-1), GarbleWords.BAD_VALUE);
        due.is("what 3", x.bestPhrase(3), GarbleWords.BAD_VALUE);
        Due.send(x, "go/so/no/go/so/to");
        best(x, 0, 2, 40);
        Due.send(x, "go/so/no/zz/so/no/to");
        best(x, 1, 2, 50);
        Due.send(x, "go/ghijklmnopqr/so");
        best(x, 0, 3, 10);
        x.set(GarbleWords.WIDE, 2);
        due.is("cost as it was sent", x.count(3), 40);
        best(x, 0, 3, 10);
        Due.enter(x, "go/ghijklmnopqr/so");
        // No phrase makes it cheaper: the one with the fewest words that stands first.
        best(x, 0, 1, 10);
        Due.enter(x, "go");
        best(x, 1, 1, 10);
        Due.send(x, "go");
        best(x, NONE, NONE, NONE);
        due.is("no change", x.count(11), 6);
        GarbleWords full = Due.fullBook();
        Due.send(full, "g/h/w/x");
        best(full, 0, 3, 20);
        full.set(GarbleWords.COST, 3);
        due.is("sent anew", full.bestPhrase(2), 6);
    }

    private static void promise17BestPhraseTies() {
        GarbleWords x = new GarbleWords();
        Due.send(x, "g/h/i/j/k/l");
        best(x, 0, 3, 40);
        Due.enter(x, "g/h/i");
        best(x, 3, 3, 20);
        x.set(GarbleWords.WIDE, 2);
        Due.send(x, "g/zzzz/h/zzzz");
        best(x, 1, 3, 20);
        Due.send(x, "zzzz/hhhh");
        best(x, 0, 2, 10);
        Due.send(x, "zz/hhhh/hhhh/zz");
        // One for hhhh: 40. One of three words: 20.
        best(x, 0, 3, 20);
        Due.send(x, "z/z/z/z");
        best(x, 0, 2, 20);
        Due.send(x, "z");
        best(x, 0, 1, 10);
        Due.enter(x, "z");
        best(x, NONE, NONE, NONE);
    }

    private static void promise18Left() {
        GarbleWords x = new GarbleWords();
        int[] all = {1296, 168, 22, 6};
        for (int apart = 1; apart <= 4; apart++) {
            x.set(GarbleWords.APART, apart);
            due.is("left, apart " + apart, x.left(), all[apart - 1]);
        }
        for (int entries = 1; entries <= 6; entries++) {
            Due.enter(x, "g" + "h".repeat(entries));
            due.is("left with " + entries, x.left(), 6 - entries);
        }
        due.is("no change", x.count(11), 6);
        x.set(GarbleWords.APART, 1);
        due.is("left, apart 1", x.left(), 1290);
        x.set(GarbleWords.APART, 3);
        int left = x.left();
        for (int entries = 0; entries < 4; entries++) {
            Due.enter(x, "z" + "h".repeat(entries));
        }
        due.is("each entry takes one", x.left(), left - 4);
        GarbleWords full = Due.fullBook();
        due.is("above 16 entries", full.left(), 6);
        full.recode(15, full.entry(15, 0));
        full.set(GarbleWords.APART, 1);
        due.is("above 16 entries", full.left(), 1280);
        // The lowest one that is far enough may leave fewer than another choice would.
        GarbleWords y = new GarbleWords();
        y.set(GarbleWords.APART, 4);
        Due.enter(y, "go");
        y.recode(0, 1);
        due.is("aaab, then bbba, cccc, dddd, eeee, ffff", y.left(), 5);
    }

    private static void promise19Distance() {
        GarbleWords x = new GarbleWords();
        due.is("code -1", x.distance(-1, 0), GarbleWords.BAD_VALUE);
        due.is("code 1296", x.distance(1296, 0), GarbleWords.BAD_VALUE);
        due.is("other -1", x.distance(0, -1), GarbleWords.BAD_VALUE);
        due.is("other 1296", x.distance(0, 1296), GarbleWords.BAD_VALUE);
        due.is("alike", x.distance(1295, 1295), 0);
        due.is("the last letter", x.distance(0, 5), 1);
        due.is("the third", x.distance(6, 0), 1);
        due.is("the second", x.distance(36, 5 * 36), 1);
        due.is("the first", x.distance(216, 0), 1);
        due.is("two", x.distance(216 + 1, 0), 2);
        due.is("three", x.distance(36 + 6 + 1, 0), 3);
        due.is("four", x.distance(0, 1295), 4);
        due.is("abcd and abdc", x.distance(36 + 12 + 3, 36 + 18 + 2), 2);
    }
}
