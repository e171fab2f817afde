/** The questions about the book, and the counts: entry, phraseSign and count (promises 9 to 11). */
public final class BookTest {
    private static final int NO_SUCH = GarbleWords.NO_SUCH, BAD_VALUE = GarbleWords.BAD_VALUE;
    private static final int NONE = GarbleWords.NONE;
    private static final int COST = GarbleWords.COST, WIDE = GarbleWords.WIDE, APART = GarbleWords.APART;
    private static final String LONGEST = "ghijklmnopqr";

    private static final Due due = new Due();

    public static void main(String[] args) {
        entryCodeWord();
        entryWords();
        entryLetters();
        entryLeastDistance();
        entryCostLessCode();
        entryTimesSent();
        entryGarblesDoNotMatter();
        entryNoSuch();
        entryOutOfRange();
        phraseSigns();
        phraseNoEntry();
        phraseNoPlace();
        countEntries();
        countWords();
        countSentWords();
        countCostAsSent();
        countCostInPlainWords();
        countLeastDistance();
        countSettings();
        countGarbledLetters();
        countPad();
        countChanges();
        countOutOfRange();
        due.end();
    }

    private static void entryCodeWord() {
        due.promise(9, "0 the number of its code word");
        GarbleWords x = Due.book("go", "so");
        due.is("the lowest", x.entry(0, 0), 0);
        due.is("the second", x.entry(1, 0), 43);
        x.recode(1, 1295);
        due.is("the highest", x.entry(1, 0), 1295);
    }

    private static void entryWords() {
        due.promise(9, "1 the words of its phrase");
        GarbleWords x = Due.book("go", "go/go", "go/go/go", LONGEST);
        int[] want = {1, 2, 3, 1};
        for (int entry = 0; entry < 4; entry++) {
            due.is("words", x.entry(entry, 1), want[entry]);
        }
    }

    private static void entryLetters() {
        due.promise(9, "2 the letters of its phrase (without \"/\")");
        GarbleWords x = Due.book("z", "z/y/x", LONGEST, LONGEST + "/" + LONGEST + "/" + LONGEST, "gg/hhh");
        int[] want = {1, 3, 12, 36, 5};
        for (int entry = 0; entry < 5; entry++) {
            due.is("letters", x.entry(entry, 2), want[entry]);
        }
    }

    private static void entryLeastDistance() {
        due.promise(9, "3 the least distance of its code word from those of other entries (NONE if there is no other"
            + " entry)");
        GarbleWords x = Due.book("go");
        due.is("alone", x.entry(0, 3), NONE);
        Due.enter(x, "so");
        due.is("one other", x.entry(0, 3), 3);
        x.recode(1, 1295);
        due.is("aaaa and ffff", x.entry(0, 3), 4);
        due.is("ffff and aaaa", x.entry(1, 3), 4);
        Due.enter(x, "no");
        due.is("aaaa, ffff and abbb", x.entry(0, 3) * 100 + x.entry(1, 3) * 10 + x.entry(2, 3), 343);
        x.set(APART, 1);
        x.recode(1, 1);
        due.is("aaaa, aaab and abbb", x.entry(0, 3) * 100 + x.entry(1, 3) * 10 + x.entry(2, 3), 112);
        x.drop(1);
        x.drop(1);
        due.is("alone again", x.entry(0, 3), NONE);
    }

    private static void entryCostLessCode() {
        due.promise(9, "4 the cost of its phrase sent in plain words, less COST, and 10000");
        GarbleWords x = Due.book("z", "z/y/x", LONGEST, LONGEST + "/zz/hijklmnop");
        int[] want = {10000, 10020, 10010, 10040};
        for (int entry = 0; entry < 4; entry++) {
            due.is("by the first settings", x.entry(entry, 4), want[entry]);
        }
        x.set(COST, 7);
        x.set(WIDE, 2);
        due.is("six, one and five of them, less one", x.entry(3, 4), 10000 + 11 * 7);
        x.set(WIDE, 12);
        due.is("three of them, less one", x.entry(3, 4), 10014);
        GarbleWords y = Due.book(LONGEST + "/" + LONGEST + "/" + LONGEST);
        y.set(COST, 99);
        y.set(WIDE, 2);
        due.is("the greatest", y.entry(0, 4), 10000 + 17 * 99);
        y.set(COST, 1);
        y.set(WIDE, 15);
        due.is("the least for three words", y.entry(0, 4), 10002);
    }

    private static void entryTimesSent() {
        due.promise(9, "5 how many sent words of the latest message were sent as code words for its phrase");
        GarbleWords x = Due.book("go", "so/go");
        due.is("nothing was sent", x.entry(0, 5), 0);
        Due.send(x, "go/so/go/go/zz/go");
        due.is("go", x.entry(0, 5), 3);
        due.is("so/go", x.entry(1, 5), 1);
        Due.enter(x, "zz");
        due.is("sent as a plain word", x.entry(2, 5), 0);
        Due.enter(x, "so");
        due.is("sent within a longer phrase", x.entry(3, 5), 0);
        x.recode(0, 1295);
        due.is("with another code word now", x.entry(0, 5), 3);
        x.drop(0);
        Due.enter(x, "go");
        due.is("entered anew, for the same phrase", x.entry(3, 5), 3);
        x.sendAgain();
        due.is("zz is sent as a code word", x.entry(1, 5), 1);
        Due.send(x, "zz");
        due.is("of the latest message alone", x.entry(3, 5), 0);
        GarbleWords y = Due.book("g");
        Due.send(y, "g/g/g/g/g/g/g/g/g/g/g/g");
        due.is("all of twelve", y.entry(0, 5), 12);
        y.drop(0);
        y.sendAgain();
        Due.enter(y, "g");
        due.is("sent anew as plain words", y.entry(0, 5), 0);
    }

    private static void entryGarblesDoNotMatter() {
        due.promise(9, "(garbles do not matter)");
        GarbleWords x = Due.book("go", "so");
        Due.send(x, "go/go/no");
        Due.garble(x, 0, "abbb");
        Due.garble(x, 1, "zzzz");
        due.is("as it was sent", x.entry(0, 5), 2);
        due.is("not as it is received", x.entry(1, 5), 0);
    }

    private static void entryNoSuch() {
        due.promise(9, "NO_SUCH if there is no such entry");
        due.is("an empty book", new GarbleWords().entry(0, 0), NO_SUCH);
        GarbleWords x = Due.book("go", "so");
        for (int entry : new int[] {-1, 2, 15, 16, Integer.MIN_VALUE, Integer.MAX_VALUE}) {
            for (int what = -1; what <= 6; what++) {
                due.is("entry(" + entry + ", " + what + ")", x.entry(entry, what), NO_SUCH);
            }
        }
        due.yes("the last of a full book", Due.fullBook().entry(15, 0) >= 0);
        due.is("behind a full book", Due.fullBook().entry(16, 0), NO_SUCH);
    }

    private static void entryOutOfRange() {
        due.promise(9, "BAD_VALUE if what is out of range.");
        GarbleWords x = Due.book("go");
        for (int what : new int[] {-1, 6, 7, -6, Integer.MIN_VALUE, Integer.MAX_VALUE}) {
            due.is("entry(0, " + what + ")", x.entry(0, what), BAD_VALUE);
        }
    }

    private static void phraseSigns() {
        due.promise(10, "Returns a character of the phrase of an entry. Returns its code");
        String[] phrases = {"z", "g/z", LONGEST + "/stuvwxyz/go", LONGEST + "/" + LONGEST + "/zzzzzzzzzzzz"};
        GarbleWords x = Due.book(phrases);
        for (int entry = 0; entry < 4; entry++) {
            for (int place = 0; place < phrases[entry].length(); place++) {
                due.is("sign " + place, x.phraseSign(entry, place), phrases[entry].charAt(place));
            }
        }
        due.is("the sign between", x.phraseSign(1, 1), 47);
    }

    private static void phraseNoEntry() {
        due.promise(10, "NO_SUCH if there is no such entry");
        due.is("an empty book", new GarbleWords().phraseSign(0, 0), NO_SUCH);
        GarbleWords x = Due.book("go", "so");
        for (int entry : new int[] {-1, 2, 15, 16, Integer.MIN_VALUE, Integer.MAX_VALUE}) {
            due.is("phraseSign(" + entry + ", 0)", x.phraseSign(entry, 0), NO_SUCH);
            due.is("phraseSign(" + entry + ", 9)", x.phraseSign(entry, 9), NO_SUCH);
        }
        x.drop(1);
        due.is("a dropped one", x.phraseSign(1, 0), NO_SUCH);
        due.is("the last of a full book", Due.fullBook().phraseSign(15, 0), 'v');
        due.is("behind a full book", Due.fullBook().phraseSign(16, 0), NO_SUCH);
    }

    private static void phraseNoPlace() {
        due.promise(10, "or place.");
        String[] phrases = {"z", "g/z", LONGEST, LONGEST + "/" + LONGEST + "/" + LONGEST, "go/so/no"};
        GarbleWords x = Due.book(phrases);
        for (int entry = 0; entry < 5; entry++) {
            int length = phrases[entry].length();
            due.yes("the last place", x.phraseSign(entry, length - 1) >= 'g');
            for (int place : new int[] {-1, length, length + 1, 38, 1000, Integer.MIN_VALUE, Integer.MAX_VALUE}) {
                due.is("phraseSign(" + entry + ", " + place + ")", x.phraseSign(entry, place), NO_SUCH);
            }
        }
    }

    private static void countEntries() {
        due.promise(11, "0 entries");
        GarbleWords x = new GarbleWords();
        due.is("none", x.count(0), 0);
        Due.enter(x, "go");
        due.is("one", x.count(0), 1);
        Due.enter(x, "go");
        due.is("not a refused one", x.count(0), 1);
        due.is("all", Due.fullBook().count(0), 16);
    }

    private static void countWords() {
        due.promise(11, "1 words of the message");
        GarbleWords x = Due.book("go/so");
        Due.send(x, "go/so/no");
        due.is("three", x.count(1), 3);
        Due.type(x, "go");
        due.is("not those of the pad", x.count(1), 3);
        x.send();
        due.is("one", x.count(1), 1);
        Due.send(x, "g/h/i/j/k/l/m/n/o/p/q/r");
        due.is("twelve", x.count(1), 12);
    }

    private static void countSentWords() {
        due.promise(11, "2 sent words");
        GarbleWords x = Due.book("go/so/no");
        Due.send(x, "go/so/no");
        due.is("one", x.count(2), 1);
        Due.send(x, "go/so/no/to/go/so/no");
        due.is("three", x.count(2), 3);
        x.drop(0);
        due.is("as they were sent", x.count(2), 3);
        Due.send(x, "g/h/i/j/k/l/m/n/o/p/q/r");
        due.is("twelve", x.count(2), 12);
    }

    private static void countCostAsSent() {
        due.promise(11, "3 the cost as it was sent");
        GarbleWords x = Due.book("go/so");
        Due.send(x, "go/so/ghijklmnop");
        due.is("as it was sent", x.count(3), 30);
        x.set(COST, 3);
        x.set(WIDE, 2);
        Due.enter(x, "ghijklmnop");
        due.is("by other settings, and another book", x.count(3), 30);
        x.garble(0, 0, 25);
        due.is("garbled", x.count(3), 30);
        x.sendAgain();
        due.is("anew", x.count(3), 6);
    }

    private static void countCostInPlainWords() {
        due.promise(11, "4 the cost of the message in plain words (by the settings of now)");
        GarbleWords x = Due.book("go/so");
        Due.send(x, "go/so/ghijklmnop");
        due.is("though not sent so", x.count(4), 40);
        x.set(COST, 3);
        due.is("by COST of now", x.count(4), 12);
        x.set(WIDE, 2);
        due.is("by WIDE of now", x.count(4), 21);
        x.drop(0);
        due.is("whatever the book", x.count(4), 21);
        x.set(COST, 99);
        Due.send(x, (LONGEST + "/").repeat(5) + LONGEST);
        due.is("the greatest that a pad can hold", x.count(4), 36 * 99);
    }

    private static void countLeastDistance() {
        due.promise(11, "5 the least distance of two code words of the book (NONE with fewer than two)");
        GarbleWords x = new GarbleWords();
        due.is("none", x.count(5), NONE);
        Due.enter(x, "go/so");
        due.is("one", x.count(5), NONE);
        Due.enter(x, "no");
        due.is("two", x.count(5), 3);
        x.recode(1, 1295);
        due.is("two, farther", x.count(5), 4);
        x.set(APART, 1);
        Due.enter(x, "to");
        due.is("three", x.count(5), 1);
        x.recode(0, Due.code("bbbb"));
        x.recode(2, Due.code("ffbb"));
        due.is("the last two", x.count(5), 2);
        x.drop(1);
        due.is("two", x.count(5), 2);
        x.drop(1);
        due.is("one", x.count(5), NONE);
    }

    private static void countSettings() {
        due.promise(11, "6 to 8 the settings");
        GarbleWords x = new GarbleWords();
        due.is("the first values", x.count(6) * 100 + x.count(7) * 10 + x.count(8), 1083);
        x.set(COST, 99);
        x.set(WIDE, 2);
        x.set(APART, 4);
        due.is("COST", x.count(6), 99);
        due.is("WIDE", x.count(7), 2);
        due.is("APART", x.count(8), 4);
    }

    private static void countGarbledLetters() {
        due.promise(11, "9 garbled letters (places of sent words with another letter than was sent)");
        GarbleWords x = Due.book("go");
        Due.send(x, "go/zzz/" + LONGEST);
        due.is("none", x.count(9), 0);
        x.garble(0, 3, 0);
        due.is("into itself", x.count(9), 0);
        x.garble(0, 3, 5);
        due.is("one", x.count(9), 1);
        x.garble(0, 3, 25);
        due.is("the same place again", x.count(9), 1);
        x.garble(2, 12, 0);
        x.garble(1, 0, 0);
        due.is("three", x.count(9), 3);
        x.garble(0, 3, 0);
        due.is("one is as it was sent", x.count(9), 2);
        x.recode(0, 1295);
        due.is("though the code word is another now", x.count(9), 2);
        Due.garble(x, 0, "bbbb");
        Due.garble(x, 1, "aaaa");
        Due.garble(x, 2, "aaaaaaaaaaaaa");
        due.is("all", x.count(9), 4 + 4 + 13);
        Due.send(x, "zzz");
        due.is("none in another message", x.count(9), 0);
    }

    private static void countPad() {
        due.promise(11, "10 the length of the pad");
        GarbleWords x = new GarbleWords();
        due.is("empty", x.count(10), 0);
        Due.type(x, LONGEST);
        due.is("twelve", x.count(10), 12);
        Due.type(x, "~".repeat(80));
        due.is("full", x.count(10), 80);
        x.put('g');
        due.is("as full", x.count(10), 80);
        x.wipe();
        due.is("empty", x.count(10), 0);
    }

    private static void countChanges() {
        due.promise(11, "11 how many changes can be undone");
        GarbleWords x = new GarbleWords();
        for (int changes = 0; changes <= 8; changes++) {
            due.is("changes", x.count(11), Math.min(6, changes));
            x.set(COST, 20 + changes);
        }
        for (int left = 5; left >= 0; left--) {
            x.undo();
            due.is("changes", x.count(11), left);
        }
        x.undo();
        due.is("none", x.count(11), 0);
    }

    private static void countOutOfRange() {
        due.promise(11, "BAD_VALUE if what is out of range.");
        GarbleWords x = new GarbleWords();
        for (int what : new int[] {-1, 12, 13, -12, Integer.MIN_VALUE, Integer.MAX_VALUE}) {
            due.is("count(" + what + ")", x.count(what), BAD_VALUE);
        }
    }
}
