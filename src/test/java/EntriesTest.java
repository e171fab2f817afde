/** The changes of the book: enter, recode and drop (promises 3 to 5). */
public final class EntriesTest {
    private static final int BAD_TEXT = GarbleWords.BAD_TEXT, TOO_MANY = GarbleWords.TOO_MANY;
    private static final int NO_SUCH = GarbleWords.NO_SUCH, BAD_VALUE = GarbleWords.BAD_VALUE;
    private static final int NOT_POSSIBLE = GarbleWords.NOT_POSSIBLE, APART = GarbleWords.APART;

    private static final Due due = new Due();

    public static void main(String[] args) {
        enterThePhraseOfThePad();
        enterTakesTheLowest();
        enterLooksAtAllEntries();
        enterEmptiesThePad();
        enterIsAChange();
        enterReturnsTheCodeWord();
        enterWithAFault();
        enterWithFourWords();
        enterIntoAFullBook();
        enterThePhraseAgain();
        enterWithoutCodeWord();
        recodeGivesAnother();
        recodeIsAChange();
        rangeOfCodes();
        recodeReturnsThePrevious();
        recodeNoEntry();
        recodeOutOfRange();
        recodeTooNear();
        dropDrops();
        dropIsAChange();
        dropReturnsHowMany();
        dropNoEntry();
        due.end();
    }

    private static void enterThePhraseOfThePad() {
        due.promise(3, "Enters the phrase of the pad into the book");
        GarbleWords x = new GarbleWords();
        Due.enter(x, "ship/soon");
        due.phrase(x, 0, "ship/soon");
        Due.enter(x, "z");
        due.phrase(x, 0, "ship/soon");
        due.phrase(x, 1, "z");
        due.is("entries", x.count(0), 2);
    }

    private static void enterTakesTheLowest() {
        due.promise(3, "with the code word with the lowest number that has a distance of at least APART");
        String[][] codes = {
            {"aaaa", "aaab", "aaac", "aaad", "aaae", "aaaf", "aaba"},
            {"aaaa", "aabb", "aacc", "aadd", "aaee", "aaff", "abab"},
            {"aaaa", "abbb", "accc", "addd", "aeee", "afff", "babc"},
            {"aaaa", "bbbb", "cccc", "dddd", "eeee", "ffff"}};
        for (int apart = 1; apart <= 4; apart++) {
            GarbleWords x = new GarbleWords();
            x.set(APART, apart);
            for (int entry = 0; entry < codes[apart - 1].length; entry++) {
                String phrase = "z".repeat(entry + 1);
                due.is("apart " + apart, Due.enter(x, phrase), Due.code(codes[apart - 1][entry]));
            }
        }
    }

    private static void enterLooksAtAllEntries() {
        due.promise(3, "from the code words of all entries");
        GarbleWords x = Due.book("go", "so", "no");
        x.drop(1);
        due.is("one that is free again", Due.enter(x, "to"), 43);
        x.recode(0, 1295);
        due.is("the lowest one, free again", Due.enter(x, "mo"), 0);
        x.recode(3, 1);
        due.is("far from the last one, too", Due.enter(x, "zo"), Due.code("addd"));
        GarbleWords y = Due.book("go");
        y.recode(0, Due.code("aabb"));
        due.is("aaaa is too near", Due.enter(y, "so"), Due.code("abaa"));
        x = Due.book("go");
        x.recode(0, Due.code("aabb"));
        x.set(APART, 2);
        due.is("aaaa is far enough", Due.enter(x, "so"), 0);
    }

    private static void enterEmptiesThePad() {
        due.promise(3, "and empties the pad");
        GarbleWords x = new GarbleWords();
        Due.enter(x, "ghijklmnopqr/go");
        due.is("length", x.count(10), 0);
        due.is("fault", x.fault(), 0);
        due.is("nothing to enter", x.enter(), BAD_TEXT);
        due.is("nothing to wipe", x.wipe(), 0);
    }

    private static void enterIsAChange() {
        due.promise(3, "This is a change.");
        GarbleWords x = new GarbleWords();
        Due.enter(x, "ship/soon");
        due.is("one", x.count(11), 1);
        Due.enter(x, "z");
        due.is("two", x.count(11), 2);
        x.undo();
        due.is("undone", x.count(0), 1);
        x.undo();
        due.is("undone", x.count(0), 0);
    }

    private static void enterReturnsTheCodeWord() {
        due.promise(3, "Returns the number of the code word");
        GarbleWords x = new GarbleWords();
        for (int entry = 0; entry < 16; entry++) {
            int code = Due.enter(x, "g".repeat(1 + entry % 12) + (entry < 12 ? "" : "/z"));
            due.is("code word " + entry, code, x.entry(entry, 0));
        }
        due.is("entries", x.count(0), 16);
    }

    private static void enterWithAFault() {
        due.promise(3, "BAD_TEXT if the pad has a fault");
        GarbleWords x = Due.book("go");
        String[] texts = {
            "", "/", "so/", "/so", "so//no", "a", "sof", "so.no", "SO", "so{", "ghijklmnopqrs", "so/ghijklmnopqrs"};
        for (String text : texts) {
            due.is("enter " + text, Due.enter(x, text), BAD_TEXT);
            due.is("the pad stays", x.count(10), text.length());
        }
        due.is("entries", x.count(0), 1);
        due.is("no change", x.count(11), 1);
    }

    private static void enterWithFourWords() {
        due.promise(3, "or more than 3 words");
        GarbleWords x = new GarbleWords();
        due.is("three", Due.enter(x, "g/h/i"), 0);
        due.is("four", Due.enter(x, "g/h/i/j"), BAD_TEXT);
        due.is("the pad stays", x.count(10), 7);
        due.is("twelve", Due.enter(x, "g/h/i/j/k/l/m/n/o/p/q/r"), BAD_TEXT);
        due.is("entries", x.count(0), 1);
        due.is("they can be sent", x.send(), 100);
    }

    private static void enterIntoAFullBook() {
        due.promise(3, "TOO_MANY if there are 16 entries");
        GarbleWords x = Due.fullBook();
        x.drop(15);
        due.is("the 16th", Due.enter(x, "zz") >= 0 ? 16 : 0, x.count(0));
        due.is("the 17th", Due.enter(x, "yy"), TOO_MANY);
        due.is("the pad stays", x.count(10), 2);
        due.is("ahead of the same phrase", Due.enter(x, "g"), TOO_MANY);
        due.is("behind a fault", Due.enter(x, "g/"), BAD_TEXT);
        due.is("behind four words", Due.enter(x, "g/g/g/g"), BAD_TEXT);
        x.set(APART, 4);
        due.is("ahead of no code word", Due.enter(x, "yy"), TOO_MANY);
        due.is("entries", x.count(0), 16);
        x.set(APART, 3);
        x.drop(3);
        due.is("room again", x.enter(), 129);
    }

    private static void enterThePhraseAgain() {
        due.promise(3, "NOT_POSSIBLE if there is such a phrase");
        GarbleWords x = Due.book("go", "so/no/to", "zz");
        for (String phrase : new String[] {"go", "so/no/to", "zz"}) {
            due.is("again " + phrase, Due.enter(x, phrase), NOT_POSSIBLE);
            due.is("the pad stays", x.count(10), phrase.length());
        }
        due.is("entries", x.count(0), 3);
        due.is("no change", x.count(11), 3);
        due.is("a part of one", Due.enter(x, "so/no"), 129);
    }

    private static void enterWithoutCodeWord() {
        due.promise(3, "or no such code word");
        GarbleWords x = new GarbleWords();
        x.set(APART, 4);
        for (int entry = 0; entry < 6; entry++) {
            Due.enter(x, "g".repeat(entry + 1));
        }
        due.is("six are all", Due.enter(x, "zz"), NOT_POSSIBLE);
        due.is("the pad stays", x.count(10), 2);
        due.is("no change", x.count(11), 6);
        x.set(APART, 3);
        due.is("but if they may be nearer", x.enter(), Due.code("abcd"));
        GarbleWords y = Due.book("g", "h", "i", "j", "k", "l");
        y.set(APART, 4);
        due.is("the book holds less, but too near", Due.enter(y, "zz"), NOT_POSSIBLE);
    }

    private static void recodeGivesAnother() {
        due.promise(4, "Gives an entry another code word.");
        GarbleWords x = Due.book("go", "so/no", "to");
        x.recode(1, 1295);
        due.is("code word", x.entry(1, 0), 1295);
        due.is("not of entry 0", x.entry(0, 0), 0);
        due.is("not of entry 2", x.entry(2, 0), 86);
        due.phrase(x, 1, "so/no");
        Due.send(x, "so/no/go");
        due.word(x, 0, "ffff");
        due.word(x, 1, "aaaa");
    }

    private static void recodeIsAChange() {
        due.promise(4, "This is a change.");
        GarbleWords x = Due.book("go");
        x.recode(0, 7);
        x.recode(0, 7);
        due.is("also if it is the same", x.count(11), 3);
        x.undo();
        due.is("undone", x.entry(0, 0), 7);
        x.undo();
        due.is("undone", x.entry(0, 0), 0);
    }

    private static void rangeOfCodes() {
        due.promise(4, "code: 0 to 1295");
        GarbleWords x = Due.book("go");
        due.is("the highest", x.recode(0, 1295), 0);
        due.is("the lowest", x.recode(0, 0), 1295);
        due.is("below", x.recode(0, -1), BAD_VALUE);
        due.is("above", x.recode(0, 1296), BAD_VALUE);
        due.is("as it was", x.entry(0, 0), 0);
    }

    private static void recodeReturnsThePrevious() {
        due.promise(4, "Returns the number of the previous one");
        GarbleWords x = Due.book("go", "so");
        due.is("as it was entered", x.recode(1, 1295), 43);
        due.is("as it was recoded", x.recode(1, 1294), 1295);
        due.is("the same", x.recode(1, 1294), 1294);
        due.is("of another", x.recode(0, 1), 0);
        x.recode(0, 1294);
        due.is("not a refused one", x.recode(0, 2), 1);
    }

    private static void recodeNoEntry() {
        due.promise(4, "NO_SUCH if there is no such entry");
        due.is("an empty book", new GarbleWords().recode(0, 0), NO_SUCH);
        GarbleWords x = Due.book("go", "so");
        for (int entry : new int[] {-1, 2, 3, 15, 16, Integer.MIN_VALUE, Integer.MAX_VALUE}) {
            due.is("recode(" + entry + ", 1295)", x.recode(entry, 1295), NO_SUCH);
            due.is("ahead of the range", x.recode(entry, 1296), NO_SUCH);
            due.is("ahead of the distance", x.recode(entry, 43), NO_SUCH);
        }
        GarbleWords full = Due.fullBook();
        due.is("the last of a full book", full.recode(15, full.entry(15, 0)), full.entry(15, 0));
        due.is("behind a full book", full.recode(16, 0), NO_SUCH);
        full.drop(0);
        due.is("a dropped one's number", full.recode(15, 0), NO_SUCH);
    }

    private static void recodeOutOfRange() {
        due.promise(4, "BAD_VALUE if code is out of range");
        GarbleWords x = Due.book("go", "so");
        for (int code : new int[] {-1, 1296, -43, 2000, Integer.MIN_VALUE, Integer.MAX_VALUE}) {
            due.is("recode(1, " + code + ")", x.recode(1, code), BAD_VALUE);
        }
        due.is("as it was", x.entry(1, 0), 43);
        due.is("no change", x.count(11), 2);
    }

    private static void recodeTooNear() {
        due.promise(4, "NOT_POSSIBLE if its distance from the code word of another entry is below APART.");
        String[] near = {"cdef", "cdea", "cdaa", "caaa", "aaaa"};
        for (int apart = 1; apart <= 4; apart++) {
            GarbleWords x = Due.book("go", "so");
            x.recode(0, Due.code("cdef"));
            x.set(APART, apart);
            for (int distance = 0; distance <= 4; distance++) {
                int answer = x.recode(1, Due.code(near[distance]));
                due.yes(distance + " with APART " + apart, distance < apart ? answer == NOT_POSSIBLE : answer >= 0);
            }
            due.is("the last one stands", x.entry(1, 0), 0);
        }
        GarbleWords x = Due.book("go", "so", "no");
        due.is("too near to the first", x.recode(1, Due.code("aaff")), NOT_POSSIBLE);
        due.is("too near to the last", x.recode(1, Due.code("accf")), NOT_POSSIBLE);
        due.is("near to itself alone", x.recode(1, Due.code("fbbb")), 43);
        due.is("no change by errors", x.count(11), 4);
        x.set(APART, 4);
        due.is("its own, by now too near to another", x.recode(0, 0), NOT_POSSIBLE);
        GarbleWords alone = Due.book("go");
        alone.set(APART, 4);
        due.is("without another entry", alone.recode(0, 1), 0);
    }

    private static void dropDrops() {
        due.promise(5, "Drops an entry.");
        GarbleWords x = Due.book("go", "so", "no");
        x.drop(1);
        due.phrase(x, 0, "go");
        due.phrase(x, 1, "no");
        due.is("entries", x.count(0), 2);
        due.is("it is used no more", Due.send(x, "so"), 10);
        due.word(x, 0, "sog");
        x.drop(1);
        due.phrase(x, 0, "go");
        x.drop(0);
        due.is("empty", x.count(0), 0);
    }

    private static void dropIsAChange() {
        due.promise(5, "This is a change.");
        GarbleWords x = Due.book("go", "so/no/to");
        String before = Due.state(x);
        x.drop(0);
        due.is("changes", x.count(11), 3);
        x.undo();
        due.same("undone", Due.state(x), before);
    }

    private static void dropReturnsHowMany() {
        due.promise(5, "Returns how many entries there are then");
        GarbleWords x = Due.fullBook();
        due.is("the first", x.drop(0), 15);
        due.is("the last", x.drop(14), 14);
        due.is("one between", x.drop(2), 13);
        for (int left = 12; left >= 0; left--) {
            due.is("the first", x.drop(0), left);
        }
    }

    private static void dropNoEntry() {
        due.promise(5, "NO_SUCH if there is no such entry");
        GarbleWords x = new GarbleWords();
        due.is("an empty book", x.drop(0), NO_SUCH);
        Due.enter(x, "go");
        for (int entry : new int[] {-1, 1, 2, 15, 16, Integer.MIN_VALUE, Integer.MAX_VALUE}) {
            due.is("drop(" + entry + ")", x.drop(entry), NO_SUCH);
        }
        due.is("no change", x.count(11), 1);
        due.is("the only one", x.drop(0), 0);
        due.is("empty again", x.drop(0), NO_SUCH);
        due.is("behind a full book", Due.fullBook().drop(16), NO_SUCH);
    }
}
