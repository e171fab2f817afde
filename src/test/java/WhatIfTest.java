/** What if: costOf, saves, bestPhrase, left and distance (promises 15 to 19). */
public final class WhatIfTest {
    private static final int NO_SUCH = GarbleWords.NO_SUCH, BAD_VALUE = GarbleWords.BAD_VALUE;
    private static final int BAD_TEXT = GarbleWords.BAD_TEXT, NOT_POSSIBLE = GarbleWords.NOT_POSSIBLE;
    private static final int NONE = GarbleWords.NONE;
    private static final int COST = GarbleWords.COST, WIDE = GarbleWords.WIDE, APART = GarbleWords.APART;

    private static final Due due = new Due();

    public static void main(String[] args) {
        costOfThePad();
        costOfAFault();
        savesOfTheLatestMessage();
        savesByTheBookOfNow();
        savesNoEntry();
        savesNoMessage();
        bestOfOneToThree();
        bestThatStandSideBySide();
        bestThatIsNoPhraseOfTheBook();
        bestIsOneMoreEntry();
        bestWithAnyCodeWord();
        bestCostsTheLeast();
        bestWithTheFewestWords();
        bestThatStandsFirst();
        bestTellsThree();
        bestOutOfRange();
        bestNone();
        leftOneAfterTheOther();
        leftTheLowestFirst();
        leftAboveSixteen();
        leftNone();
        distanceOfNumbers();
        distanceOutOfRange();
        due.end();
    }

    private static void costOfThePad() {
        due.promise(15, "Returns the cost of the message of the pad.");
        GarbleWords x = new GarbleWords();
        due.is("plain", Due.costOf(x, "go/ghijklmnop"), 30);
        due.is("the pad stays", x.count(10), 13);
        due.is("nothing was sent", x.count(1), 0);
        Due.enter(x, "go/ghijklmnop");
        due.is("by the book", Due.costOf(x, "so/go/ghijklmnop/go"), 30);
        x.set(COST, 3);
        due.is("by the settings", x.costOf(), 9);
        due.is("as it is sent", x.send(), 9);
        due.is("no change", x.count(11), 3);
        due.is("of twelve words", Due.costOf(x, "g/h/i/j/k/l/m/n/o/p/q/r"), 36);
        due.is("of one letter", Due.costOf(x, "g"), 3);
        due.is("the latest message does not matter", x.count(3), 9);
        x.set(WIDE, 2);
        Due.enter(x, "ghij");
        due.is("of an entry", Due.costOf(x, "ghij"), 3);
    }

    private static void costOfAFault() {
        due.promise(15, "BAD_TEXT if the pad has a fault.");
        GarbleWords x = Due.book("go");
        due.is("empty", x.costOf(), BAD_TEXT);
        String twelve = "g/h/i/j/k/l/m/n/o/p/q/r";
        for (String text : new String[] {"go/", "/go", "go//go", "a", "goa", "ghijklmnopqrs", twelve + "/s"}) {
            due.is("costOf " + text, Due.costOf(x, text), BAD_TEXT);
            due.is("the pad stays", x.count(10), text.length());
        }
        Due.send(x, "go");
        due.is("with a message, but an empty pad", x.costOf(), BAD_TEXT);
    }

    private static void savesOfTheLatestMessage() {
        due.promise(16, "Returns how much more the latest message would cost");
        GarbleWords x = Due.book("go/so", "so/go", "zz", "g");
        Due.send(x, "zz/zz");
        Due.send(x, "go/so/go/so/ghijklmnop");
        due.is("only partly replaced", x.saves(0), 10);
        due.is("not needed", x.saves(1), 0);
        due.is("not in the latest message", x.saves(2), 0);
        due.is("not in the message, but as a letter", x.saves(3), 0);
        x.drop(1);
        due.is("twice ten", x.saves(0), 20);
        Due.type(x, "go/so");
        due.is("the pad does not matter", x.saves(0), 20);
        due.is("a single word, as dear both ways", Due.send(x, "g") + x.saves(2), 10);
    }

    private static void savesByTheBookOfNow() {
        due.promise(16, "sent anew by the book of now, without an entry than with all entries.");
        GarbleWords x = new GarbleWords();
        Due.send(x, "go/so/go/so/ghijklmnop");
        Due.enter(x, "go/so");
        Due.enter(x, "ghijklmnop");
        due.is("an entry of now", x.saves(0), 20);
        due.is("an entry of now", x.saves(1), 10);
        x.set(WIDE, 2);
        due.is("by the settings of now", x.saves(1), 40);
        x.set(COST, 3);
        due.is("by the settings of now", x.saves(1), 12);
        due.is("nothing is sent", x.count(3), 60);
        due.is("the entries stay", x.count(0), 2);
        Due.enter(x, "so/ghijklmnop");
        // go/so, go/so, ghijklmnop cost as much as go/so, go, so/ghijklmnop.
        due.is("another one replaces it", x.saves(1), 0);
        due.is("it saves nothing itself", x.saves(2), 0);
        x.drop(1);
        due.is("but it does when it is alone", x.saves(1), 12);
    }

    private static void savesNoEntry() {
        due.promise(16, "NO_SUCH if there is no such entry");
        GarbleWords x = new GarbleWords();
        due.is("an empty book, ahead of no message", x.saves(0), NO_SUCH);
        Due.send(x, "go/so");
        due.is("an empty book", x.saves(0), NO_SUCH);
        Due.enter(x, "go/so");
        due.is("the last one", x.saves(0), 10);
        for (int entry : new int[] {-1, 1, 15, 16, Integer.MIN_VALUE, Integer.MAX_VALUE}) {
            due.is("saves(" + entry + ")", x.saves(entry), NO_SUCH);
        }
        GarbleWords full = Due.fullBook();
        Due.send(full, "v/w");
        due.is("the last of a full book", full.saves(15), 0);
        due.is("behind a full book", full.saves(16), NO_SUCH);
    }

    private static void savesNoMessage() {
        due.promise(16, "NOT_POSSIBLE if there is no message.");
        GarbleWords x = Due.book("go", "so");
        due.is("none yet", x.saves(0), NOT_POSSIBLE);
        Due.send(x, "go/");
        due.is("a refused one", x.saves(1), NOT_POSSIBLE);
        Due.send(x, "go");
        x.undo();
        due.is("an undone one", x.saves(0), NOT_POSSIBLE);
    }

    private static void best(GarbleWords x, int first, int words, int cost) {
        due.is("bestPhrase(0)", x.bestPhrase(0), first);
        due.is("bestPhrase(1)", x.bestPhrase(1), words);
        due.is("bestPhrase(2)", x.bestPhrase(2), cost);
    }

    private static void bestOfOneToThree() {
        due.promise(17, "Finds the phrase of 1 to 3 words");
        GarbleWords x = new GarbleWords();
        Due.send(x, "z");
        best(x, 0, 1, 10);
        Due.send(x, "z/y");
        best(x, 0, 2, 10);
        Due.send(x, "z/y/x");
        best(x, 0, 3, 10);
        Due.send(x, "z/y/x/w");
        best(x, 0, 3, 20);
        Due.send(x, "g/h/i/j/k/l/m/n/o/p/q/r");
        best(x, 0, 3, 100);
    }

    private static void bestThatStandSideBySide() {
        due.promise(17, "that stand side by side in the latest message");
        GarbleWords x = new GarbleWords();
        Due.send(x, "gg/zz/gg/zz/gg/zz");
        Due.send(x, "go/so/no/go/so/to");
        best(x, 0, 2, 40);
        Due.send(x, "go/so/no/zz/so/no/to");
        best(x, 1, 2, 50);
        Due.send(x, "z/z/z/z");
        best(x, 0, 2, 20);
        // The last three words of a message of twelve.
        Due.send(x, "g/h/i/j/k/l/m/n/o/zzzzz/yyyyy/xxxxx");
        x.set(WIDE, 2);
        best(x, 9, 3, 100);
        Due.type(x, "ghijklmn/ghijklmn");
        due.is("the pad does not matter", x.bestPhrase(0), 9);
    }

    private static void bestThatIsNoPhraseOfTheBook() {
        due.promise(17, "and that is no phrase of the book");
        GarbleWords x = Due.book("g/h/i");
        Due.send(x, "g/h/i/j/k/l");
        best(x, 3, 3, 20);
        Due.enter(x, "j/k/l");
        // No phrase makes it cheaper now.
        best(x, 0, 1, 20);
        Due.enter(x, "g");
        best(x, 1, 1, 20);
        x.drop(0);
        best(x, 0, 3, 20);
        Due.send(x, "zz/zz");
        Due.enter(x, "zz");
        best(x, 0, 2, 10);
    }

    private static void bestIsOneMoreEntry() {
        due.promise(17, "with which (as one more entry");
        GarbleWords x = Due.book("go/so/no");
        Due.send(x, "go/so/no/to/mo/lo");
        best(x, 3, 3, 20);
        // go/so/to stands twice, go/so/no is in the book.
        Due.send(x, "go/so/to/go/so/to/go/so/no");
        best(x, 0, 3, 30);
        GarbleWords full = Due.fullBook();
        Due.send(full, "g/h/w/x");
        best(full, 0, 3, 20);
        due.is("entries", full.count(0), 16);
        full.set(COST, 3);
        due.is("sent anew", full.bestPhrase(2), 6);
    }

    private static void bestWithAnyCodeWord() {
        due.promise(17, "with any code word)");
        GarbleWords x = new GarbleWords();
        x.set(APART, 4);
        for (int entry = 0; entry < 6; entry++) {
            Due.enter(x, "z".repeat(entry + 1));
        }
        due.is("none is left", x.left(), 0);
        Due.send(x, "go/so/no");
        best(x, 0, 3, 10);
    }

    private static void bestCostsTheLeast() {
        due.promise(17, "it would cost the least, sent anew;");
        GarbleWords x = new GarbleWords();
        x.set(WIDE, 2);
        Due.send(x, "g/zzzz/h/zzzz");
        best(x, 1, 3, 20);
        Due.send(x, "zz/hhhh/hhhh/zz");
        best(x, 0, 3, 20);
        Due.send(x, "zzzz/g/g/g/zzzz");
        best(x, 0, 3, 40);
        x.set(WIDE, 8);
        due.is("cost as it was sent", x.count(3), 70);
        best(x, 0, 3, 30);
        Due.enter(x, "zzzz/g/g");
        best(x, 3, 2, 20);
    }

    private static void bestWithTheFewestWords() {
        due.promise(17, "of several the one with the fewest words");
        GarbleWords x = Due.book("go/ghijklmnopqr/so");
        Due.send(x, "go/ghijklmnopqr/so");
        best(x, 0, 1, 10);
        Due.send(x, "zzzz/zzzz/g/g/h");
        x.set(WIDE, 2);
        // zzzz: 10 + 10 + 30; zzzz/zzzz/g: 10 + 20; zzzz/zzzz: 10 + 30.
        best(x, 0, 3, 30);
        Due.send(x, "zzzz/g/zzzz/g");
        // zzzz/g twice costs 20, as a phrase of three words would.
        best(x, 0, 2, 20);
        Due.send(x, "g/h/g/h/g");
        // g/h twice costs 30, as g/h/g would, and each other one of three words.
        best(x, 0, 2, 30);
    }

    private static void bestThatStandsFirst() {
        due.promise(17, "of these the one that stands first.");
        GarbleWords x = new GarbleWords();
        Due.send(x, "g/h/i/j/k/l");
        best(x, 0, 3, 40);
        Due.send(x, "g/h/h/i/h/i/g/h");
        // g/h and h/i stand twice each.
        best(x, 0, 2, 60);
        Due.enter(x, "g/h");
        best(x, 2, 2, 40);
        Due.enter(x, "h/i");
        Due.enter(x, "g");
        Due.send(x, "g/h");
        best(x, 1, 1, 10);
    }

    private static void bestTellsThree() {
        due.promise(17, "what: 0 the first word, 1 how many words, 2 the cost then");
        GarbleWords x = Due.book("go");
        Due.send(x, "go/go/ghijklmnop/ghijklmnop/go");
        due.is("the first word", x.bestPhrase(0), 1);
        due.is("how many words", x.bestPhrase(1), 3);
        due.is("the cost then", x.bestPhrase(2), 30);
    }

    private static void bestOutOfRange() {
        due.promise(17, "BAD_VALUE if what is out of range");
        GarbleWords x = new GarbleWords();
        for (int what : new int[] {-1, 3, 4, Integer.MIN_VALUE, Integer.MAX_VALUE}) {
            due.is("ahead of NONE: bestPhrase(" + what + ")", x.bestPhrase(what), BAD_VALUE);
        }
        Due.send(x, "go");
        due.is("bestPhrase(-1)", x.bestPhrase(-1), BAD_VALUE);
        due.is("bestPhrase(3)", x.bestPhrase(3), BAD_VALUE);
    }

    private static void bestNone() {
        due.promise(17, "NONE if there is no such phrase.");
        GarbleWords x = new GarbleWords();
        best(x, NONE, NONE, NONE);
        Due.send(x, "z");
        Due.enter(x, "z");
        best(x, NONE, NONE, NONE);
        Due.send(x, "z/z");
        Due.enter(x, "z/z");
        best(x, NONE, NONE, NONE);
        Due.send(x, "z/z/z");
        best(x, 0, 3, 10);
        Due.enter(x, "z/z/z");
        best(x, NONE, NONE, NONE);
        Due.send(x, "z/z/z/z/z/z/z/z/z/z/z/z");
        best(x, NONE, NONE, NONE);
        x.drop(1);
        best(x, 0, 2, 40);
    }

    private static void leftOneAfterTheOther() {
        due.promise(18, "Tells how many code words could still be entered, one after the other");
        GarbleWords x = new GarbleWords();
        int[] all = {1296, 168, 22, 6};
        for (int apart = 1; apart <= 4; apart++) {
            x.set(APART, apart);
            due.is("by APART " + apart, x.left(), all[apart - 1]);
        }
        for (int entries = 1; entries <= 6; entries++) {
            Due.enter(x, "z".repeat(entries));
            due.is("with " + entries, x.left(), 6 - entries);
        }
        x.set(APART, 1);
        due.is("by APART 1", x.left(), 1290);
        x.set(APART, 3);
        int left = x.left();
        for (int entries = 1; entries <= 4; entries++) {
            Due.enter(x, "y".repeat(entries));
            due.is("each entry takes one", x.left(), left - entries);
        }
        x.drop(0);
        due.is("a dropped one gives its own back", x.left(), left - 3);
    }

    private static void leftTheLowestFirst() {
        due.promise(18, "each time the lowest one that is far enough from all others");
        GarbleWords x = Due.book("go");
        x.set(APART, 4);
        x.recode(0, 1);
        due.is("aaab, then bbba, cccc, dddd, eeee, ffff", x.left(), 5);
        x.recode(0, Due.code("abcd"));
        due.is("abcd, then five more", x.left(), 5);
        due.is("the lowest one", Due.enter(x, "so"), Due.code("baaa"));
        due.is("the lowest one", Due.enter(x, "no"), Due.code("ccbb"));
        due.is("the lowest one", Due.enter(x, "to"), Due.code("dddc"));
        due.is("eeee, ffff", x.left(), 2);
        // The highest first would leave 19, 23, 19 and 21; from the entry's own code word on 27, 27, 23 and none.
        int[] codes = {1, Due.code("abcd"), 7, 1295};
        int[] want = {27, 24, 23, 19};
        for (int i = 0; i < 4; i++) {
            GarbleWords y = Due.book("go");
            y.recode(0, codes[i]);
            due.is("beside " + codes[i], y.left(), want[i]);
        }
    }

    private static void leftAboveSixteen() {
        due.promise(18, "(also above 16 entries)");
        GarbleWords full = Due.fullBook();
        due.is("by APART 3", full.left(), 6);
        full.set(APART, 1);
        due.is("by APART 1", full.left(), 1280);
        due.is("none can be entered", Due.enter(full, "zz"), GarbleWords.TOO_MANY);
        due.is("as before", full.left(), 1280);
    }

    private static void leftNone() {
        due.promise(18, "how many code words could still be entered");
        GarbleWords x = Due.book("g", "h", "i", "j", "k", "l");
        due.is("by APART 3", x.left(), 16);
        x.set(APART, 4);
        due.is("none by APART 4", x.left(), 0);
        due.is("none is entered", Due.enter(x, "zz"), NOT_POSSIBLE);
    }

    private static void distanceOfNumbers() {
        due.promise(19, "Returns the distance of two code words, by their numbers.");
        GarbleWords x = new GarbleWords();
        due.is("the lowest and the highest", x.distance(0, 1295), 4);
        due.is("the highest and the lowest", x.distance(1295, 0), 4);
        due.is("the highest", x.distance(1295, 1295), 0);
        due.is("the last letter", x.distance(0, 5), 1);
        due.is("the last and the third", x.distance(5, 6), 2);
        due.is("the third", x.distance(6, 0), 1);
        due.is("the second", x.distance(36, 5 * 36), 1);
        due.is("the second and those behind", x.distance(35, 36), 3);
        due.is("the first", x.distance(216, 0), 1);
        due.is("the first and those behind", x.distance(215, 216), 4);
    }

    private static void distanceOutOfRange() {
        due.promise(19, "BAD_VALUE if a number is not 0 to 1295.");
        GarbleWords x = new GarbleWords();
        for (int number : new int[] {-1, 1296, -1295, Integer.MIN_VALUE, Integer.MAX_VALUE}) {
            for (int other : new int[] {0, 1295, -1, 1296, number}) {
                due.is("distance(" + number + ", " + other + ")", x.distance(number, other), BAD_VALUE);
                due.is("distance(" + other + ", " + number + ")", x.distance(other, number), BAD_VALUE);
            }
        }
    }
}
