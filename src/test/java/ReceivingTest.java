/** Receiving: the terms, garble, letter, received and receivedSo (promises 8 and 12 to 14). */
public final class ReceivingTest {
    private static final int NO_SUCH = GarbleWords.NO_SUCH, BAD_VALUE = GarbleWords.BAD_VALUE;
    private static final int NONE = GarbleWords.NONE, APART = GarbleWords.APART;
    private static final int WELL_CODE = 0, MENDED = 1, WELL_PLAIN = 2, WRONG = 3;
    private static final String LONGEST = "ghijklmnopqr";

    private static final Due due = new Due();

    public static void main(String[] args) {
        garbledLetters();
        codeWords();
        wellCodeWords();
        mendedCodeWords();
        wrongCodeWords();
        wellPlainWords();
        wrongPlainWords();
        plainLettersInCodeWords();
        garbleGarbles();
        garbleIsAChange();
        rangeOfLetters();
        garbleReturnsThePrevious();
        garbleNoSuchWord();
        garbleNoSuchPlace();
        garbleOutOfRange();
        letterAsReceived();
        letterReturnsItsNumber();
        letterNoSuchWord();
        letterNoSuchPlace();
        letterBelowZero();
        receivedHow();
        receivedAsEntry();
        receivedMendedPlace();
        receivedForHowMany();
        receivedTextOfAnEntry();
        receivedTextOfAPlainWord();
        receivedWrongText();
        receivedCost();
        receivedNoSuchWord();
        receivedOutOfRange();
        howManyReceivedSo();
        howManyMisread();
        receivedSoOutOfRange();
        due.end();
    }

    /** Garbles the first letters of a sent word into a text, and looks at how it is received then. */
    private static void how(GarbleWords x, int word, String text, int want) {
        Due.garble(x, word, text);
        due.is(Due.word(x, word) + " is received", x.received(word, 0), want);
    }

    /** One sent code word, aaaa, and a book with these code words. */
    private static GarbleWords sentCode(String... codes) {
        GarbleWords x = Due.book("go");
        Due.send(x, "go");
        x.drop(0);
        x.set(APART, 1);
        for (int entry = 0; entry < codes.length; entry++) {
            Due.enter(x, "z".repeat(entry + 1));
            x.recode(entry, Due.code(codes[entry]));
        }
        return x;
    }

    private static void garbledLetters() {
        due.term("On the way letters of sent words can be garbled: they become other letters from a to z.");
        GarbleWords x = Due.book("go");
        Due.send(x, "go/" + LONGEST + "/z");
        Due.garble(x, 0, "zazf");
        Due.garble(x, 1, "abcdefghijklm");
        Due.garble(x, 2, "ga");
        due.word(x, 0, "zazf");
        due.word(x, 1, "abcdefghijklm");
        due.word(x, 2, "ga");
        for (int letter = 25; letter >= 0; letter--) {
            x.garble(1, 12, letter);
            due.is("letter", x.letter(1, 12), letter);
        }
    }

    private static void codeWords() {
        due.term("If it has 4 letters, and three or four of them are code letters, it is a code word:");
        GarbleWords x = Due.book("go", "zzzz");
        Due.send(x, "go/zz/zzz/so/nnnn/" + LONGEST);
        due.is("zzzx is plain", x.received(2, 0), WELL_PLAIN);
        how(x, 2, "azzx", WRONG);
        how(x, 2, "aazx", WRONG);
        how(x, 2, "aaax", MENDED);
        how(x, 2, "aaaa", WELL_CODE);
        how(x, 2, "zaaa", MENDED);
        how(x, 2, "azaa", MENDED);
        how(x, 2, "aaza", MENDED);
        how(x, 2, "azaz", WRONG);
        how(x, 0, "aazz", WRONG);
        how(x, 0, "azzz", WRONG);
        how(x, 0, "zzzx", WELL_PLAIN);
        how(x, 0, "zzzy", WRONG);
        how(x, 0, "gggg", WELL_PLAIN);
        how(x, 1, "aaa", WRONG);
        how(x, 4, "aaaaa", WRONG);
        how(x, 4, "aaaaz", WRONG);
        how(x, 5, "aaaaaaaaaaaaa", WRONG);
        due.is("only the ones of four letters are code words", x.receivedSo(WELL_CODE) + x.receivedSo(MENDED), 0);
    }

    private static void wellCodeWords() {
        due.term("it is well (0) if it is the code word of an entry;");
        due.is("the first", sentCode("aaaa", "abbb").received(0, 0), WELL_CODE);
        due.is("the last", sentCode("abbb", "accc", "aaaa").received(0, 0), WELL_CODE);
        due.is("also if one is just one letter off", sentCode("aaab", "aaaa").received(0, 0), WELL_CODE);
        GarbleWords x = sentCode("aaab", "aaac", "aaaa", "aaad");
        due.is("also if many are", x.received(0, 0), WELL_CODE);
        due.is("as its entry", x.received(0, 1), 2);
        how(x, 0, "aaad", WELL_CODE);
        due.is("as another entry", x.received(0, 1), 3);
        GarbleWords full = Due.fullBook();
        Due.send(full, "v");
        due.is("the sixteenth", full.received(0, 0) * 100 + full.received(0, 1), 15);
    }

    private static void mendedCodeWords() {
        due.term("otherwise, if there is just one entry whose code word has unlike letters at just one place, it is"
            + " mended (1), as this entry's;");
        String[] codes = {"baaa", "abaa", "aaba", "aaab", "faaa", "aaaf"};
        for (String code : codes) {
            GarbleWords x = sentCode(code);
            due.is("received for " + code, x.received(0, 0), MENDED);
            due.is("as the entry", x.received(0, 1), 0);
        }
        GarbleWords x = sentCode("ffff", "bbaa", "aabb", "aafa", "bbbb");
        due.is("the others are farther off", x.received(0, 0), MENDED);
        due.is("as the entry", x.received(0, 1), 3);
        how(x, 0, "zaba", WRONG);
        how(x, 0, "zafa", MENDED);
        due.is("as the entry", x.received(0, 1), 3);
        how(x, 0, "bbbz", MENDED);
        due.is("as the entry", x.received(0, 1), 4);
    }

    private static void wrongCodeWords() {
        due.term("otherwise it is wrong (3).");
        due.is("an empty book", sentCode().received(0, 0), WRONG);
        due.is("two places", sentCode("aabb").received(0, 0), WRONG);
        due.is("three places", sentCode("abbb", "bbba").received(0, 0), WRONG);
        due.is("four places", sentCode("ffff").received(0, 0), WRONG);
        due.is("two entries, at one place", sentCode("aaab", "aaac").received(0, 0), WRONG);
        due.is("two entries, at two places", sentCode("aaab", "baaa").received(0, 0), WRONG);
        due.is("three entries", sentCode("aaba", "cccc", "aaab", "caaa").received(0, 0), WRONG);
    }

    private static void wellPlainWords() {
        due.term("Otherwise it is a plain word: it is well (2) if it has two letters or more, all of them plain, and"
            + " the last one is the check letter of the others;");
        GarbleWords x = new GarbleWords();
        Due.send(x, "g/z/go/zzz/nnnn/" + LONGEST);
        for (int word = 0; word < 6; word++) {
            due.is(Due.word(x, word), x.received(word, 0), WELL_PLAIN);
        }
        how(x, 0, "hh", WELL_PLAIN);
        how(x, 0, "zz", WELL_PLAIN);
        how(x, 1, "gg", WELL_PLAIN);
        how(x, 2, "ogo", WELL_PLAIN);
        how(x, 2, "zhg", WELL_PLAIN);
        how(x, 3, "gggg", WELL_PLAIN);
        how(x, 3, "zzhz", WELL_PLAIN);
        how(x, 5, "zzzzzzzzzzzzo", WELL_PLAIN);
    }

    private static void wrongPlainWords() {
        due.term("(2) if it has two letters or more, all of them plain, and the last one is the check letter of the"
            + " others; otherwise it is wrong (3).");
        GarbleWords x = Due.book("zzzz");
        Due.send(x, "g/go/zzz/nnnn/" + LONGEST);
        how(x, 0, "gh", WRONG);
        how(x, 0, "hg", WRONG);
        how(x, 0, "ag", WRONG);
        how(x, 0, "ga", WRONG);
        how(x, 0, "aa", WRONG);
        how(x, 1, "gop", WRONG);
        how(x, 1, "ggo", WRONG);
        how(x, 1, "foo", WRONG);
        how(x, 1, "gfo", WRONG);
        // As numbers, e is two less than g: -2 and 10 would be the check letter o, if it were plain.
        how(x, 1, "eqo", WRONG);
        how(x, 1, "goa", WRONG);
        how(x, 2, "abzz", WRONG);
        how(x, 3, "fnnni", WRONG);
        how(x, 4, "ahijklmnopqrm", WRONG);
        how(x, 4, LONGEST + "a", WRONG);
        how(x, 4, LONGEST + "n", WRONG);
        how(x, 4, LONGEST + "m", WELL_PLAIN);
    }

    private static void plainLettersInCodeWords() {
        due.term("(A plain letter in a code word is unlike each code letter.)");
        GarbleWords x = Due.book("go", "so", "no", "to", "mo", "lo");
        Due.send(x, "go/so/no/to/mo/lo");
        for (int word = 0; word < 6; word++) {
            x.recode(word, word * 259);
        }
        x.sendAgain();
        for (int word = 0; word < 6; word++) {
            for (int place = 0; place < 4; place++) {
                for (int letter = 6; letter <= 25; letter++) {
                    x.garble(word, place, letter);
                    due.is("mended", x.received(word, 0) * 100 + x.received(word, 1) * 10 + x.received(word, 2),
                        100 + word * 10 + place);
                }
                x.garble(word, place, word);
            }
        }
        GarbleWords y = sentCode("aaaa", "aaab");
        for (int letter = 6; letter <= 25; letter++) {
            y.garble(0, 3, letter);
            due.is("as far from both", y.received(0, 0), WRONG);
        }
    }

    private static void garbleGarbles() {
        due.promise(8, "Garbles a letter of a sent word.");
        GarbleWords x = Due.book("so");
        Due.send(x, "go/so/zzz");
        x.garble(2, 3, 0);
        due.word(x, 2, "zzza");
        x.garble(1, 0, 25);
        due.word(x, 1, "zaaa");
        due.word(x, 0, "goo");
        x.garble(0, 1, 1);
        due.word(x, 0, "gbo");
    }

    private static void garbleIsAChange() {
        due.promise(8, "This is a change.");
        GarbleWords x = new GarbleWords();
        Due.send(x, "go/zzz");
        x.garble(1, 3, 0);
        x.garble(1, 3, 0);
        due.is("also if it is the same", x.count(11), 3);
        x.garble(0, 0, 25);
        x.undo();
        due.word(x, 0, "goo");
        due.word(x, 1, "zzza");
        x.undo();
        x.undo();
        due.word(x, 1, "zzzx");
        due.is("garbled", x.count(9), 0);
    }

    private static void rangeOfLetters() {
        due.promise(8, "letter: 0 to 25: a to z");
        GarbleWords x = new GarbleWords();
        Due.send(x, "zz");
        due.is("a", x.garble(0, 0, 0), 25);
        due.is("z", x.garble(0, 0, 25), 0);
        due.is("below", x.garble(0, 0, -1), BAD_VALUE);
        due.is("above", x.garble(0, 0, 26), BAD_VALUE);
        due.word(x, 0, "zzy");
    }

    private static void garbleReturnsThePrevious() {
        due.promise(8, "Returns the previous letter");
        GarbleWords x = Due.book("go");
        Due.send(x, "go/zzz");
        due.is("as it was sent", x.garble(0, 0, 5), 0);
        due.is("as it was garbled", x.garble(0, 0, 25), 5);
        due.is("the same", x.garble(0, 0, 25), 25);
        due.is("the check letter", x.garble(1, 3, 0), 23);
        x.garble(0, 0, 26);
        due.is("not a refused one", x.garble(0, 0, 0), 25);
    }

    private static void garbleNoSuchWord() {
        due.promise(8, "NO_SUCH if there is no such sent word or place");
        GarbleWords x = Due.book("go/so");
        due.is("nothing was sent", x.garble(0, 0, 0), NO_SUCH);
        Due.send(x, "no/no/no/no/no/no/no/no/no/no/no/no");
        due.is("the twelfth", x.garble(11, 0, 0), 'n' - 'a');
        due.is("a thirteenth", x.garble(12, 0, 0), NO_SUCH);
        Due.send(x, "go/so/no");
        due.is("the second", x.garble(1, 0, 0), 'n' - 'a');
        for (int word : new int[] {-1, 2, 3, 11, 12, Integer.MIN_VALUE, Integer.MAX_VALUE}) {
            due.is("garble(" + word + ", 0, 0)", x.garble(word, 0, 0), NO_SUCH);
            due.is("ahead of the letter", x.garble(word, 0, 26), NO_SUCH);
        }
        due.is("no change by errors", x.count(11), 5);
    }

    private static void garbleNoSuchPlace() {
        due.promise(8, "NO_SUCH if there is no such sent word or place");
        GarbleWords x = Due.book("so");
        Due.send(x, LONGEST + "/" + LONGEST + "/" + LONGEST);
        due.is("the check letter of the longest", x.garble(0, 12, 0), 12);
        due.is("behind it", x.garble(0, 13, 0), NO_SUCH);
        Due.send(x, "z/so/no/" + LONGEST);
        int[] lengths = {2, 4, 3, 13};
        for (int word = 0; word < 4; word++) {
            due.yes("the last place", x.garble(word, lengths[word] - 1, 0) >= 0);
            for (int place : new int[] {-1, lengths[word], 13, 14, -13, Integer.MIN_VALUE, Integer.MAX_VALUE}) {
                due.is("garble(" + word + ", " + place + ", 0)", x.garble(word, place, 0), NO_SUCH);
                due.is("ahead of the letter", x.garble(word, place, -1), NO_SUCH);
            }
        }
        due.is("only these four", x.count(9), 3);
        due.is("changes", x.count(11), 6);
    }

    private static void garbleOutOfRange() {
        due.promise(8, "BAD_VALUE if letter is out of range");
        GarbleWords x = new GarbleWords();
        Due.send(x, "go");
        for (int letter : new int[] {-1, 26, 27, 97, 122, Integer.MIN_VALUE, Integer.MAX_VALUE}) {
            due.is("garble(0, 2, " + letter + ")", x.garble(0, 2, letter), BAD_VALUE);
        }
        due.word(x, 0, "goo");
        due.is("no change", x.count(11), 1);
    }

    private static void letterAsReceived() {
        due.promise(12, "Returns a letter of a sent word as it is received.");
        GarbleWords x = Due.book("go");
        Due.send(x, "go/zzz/" + LONGEST);
        due.word(x, 0, "aaaa");
        due.word(x, 1, "zzzx");
        due.word(x, 2, LONGEST + "m");
        x.garble(1, 3, 0);
        due.is("as it is garbled", x.letter(1, 3), 0);
        x.drop(0);
        due.word(x, 0, "aaaa");
        x.garble(0, 1, 1);
        due.word(x, 0, "abaa");
    }

    private static void letterReturnsItsNumber() {
        due.promise(12, "Returns 0 to 25: a to z");
        GarbleWords x = new GarbleWords();
        Due.send(x, "ghijklmnopqr/stuvwxyz");
        for (int letter = 6; letter <= 25; letter++) {
            due.is("plain", x.letter(letter < 18 ? 0 : 1, letter < 18 ? letter - 6 : letter - 18), letter);
        }
        Due.garble(x, 0, "abcdef");
        for (int letter = 0; letter <= 5; letter++) {
            due.is("code", x.letter(0, letter), letter);
        }
    }

    private static void letterNoSuchWord() {
        due.promise(12, "NO_SUCH if there is no such sent word");
        GarbleWords x = Due.book("go/so");
        due.is("nothing was sent", x.letter(0, 0), NO_SUCH);
        due.is("ahead of BAD_VALUE", x.letter(0, -1), NO_SUCH);
        Due.send(x, "go/so/no");
        due.is("the last one", x.letter(1, 0), 'n' - 'a');
        for (int word : new int[] {-1, 2, 3, 12, Integer.MIN_VALUE, Integer.MAX_VALUE}) {
            for (int place : new int[] {0, 3, -1, 99}) {
                due.is("letter(" + word + ", " + place + ")", x.letter(word, place), NO_SUCH);
            }
        }
    }

    private static void letterNoSuchPlace() {
        due.promise(12, "NONE if it has no such place (place is 0 or more)");
        GarbleWords x = Due.book("so");
        Due.send(x, LONGEST + "/" + LONGEST + "/" + LONGEST + "/" + LONGEST);
        Due.send(x, "z/so/no/" + LONGEST);
        int[] lengths = {2, 4, 3, 13};
        for (int word = 0; word < 4; word++) {
            due.yes("the last place", x.letter(word, lengths[word] - 1) >= 0);
            for (int place : new int[] {lengths[word], lengths[word] + 1, 13, 14, 1000, Integer.MAX_VALUE}) {
                due.is("letter(" + word + ", " + place + ")", x.letter(word, place), NONE);
            }
            due.yes("place 0", x.letter(word, 0) >= 0);
        }
    }

    private static void letterBelowZero() {
        due.promise(12, "BAD_VALUE if place is below 0.");
        GarbleWords x = Due.book("so");
        Due.send(x, "so/no");
        for (int place : new int[] {-1, -2, -13, Integer.MIN_VALUE}) {
            due.is("letter(0, " + place + ")", x.letter(0, place), BAD_VALUE);
            due.is("letter(1, " + place + ")", x.letter(1, place), BAD_VALUE);
        }
    }

    private static void receivedHow() {
        due.promise(13, "0 how (0 to 3)");
        GarbleWords x = Due.book("go", "so");
        Due.send(x, "go/so/no/to");
        Due.garble(x, 1, "abbz");
        Due.garble(x, 3, "z");
        for (int word = 0; word < 4; word++) {
            due.is(Due.word(x, word), x.received(word, 0), word);
        }
    }

    private static void receivedAsEntry() {
        due.promise(13, "1 the entry that it is received as (NONE for a plain or a wrong one)");
        GarbleWords x = Due.book("go", "so");
        Due.send(x, "go/so/no/go/go/to");
        Due.garble(x, 1, "abbz");
        Due.garble(x, 3, "abba");
        Due.garble(x, 4, "aacc");
        Due.garble(x, 5, "z");
        int[] want = {0, 1, NONE, 1, NONE, NONE};
        for (int word = 0; word < 6; word++) {
            due.is(Due.word(x, word), x.received(word, 1), want[word]);
        }
        x.drop(0);
        due.is("by the book of now", x.received(0, 1), NONE);
        due.is("by the book of now", x.received(1, 1), 0);
        x.set(APART, 1);
        Due.enter(x, "to");
        due.is("by the book of now", x.received(0, 1), 1);
        Due.enter(x, "zo");
        due.is("a wrong one, near to two", x.received(0, 1) * 10 + x.recode(1, 2) + x.received(0, 1), 10 + NONE);
    }

    private static void receivedMendedPlace() {
        due.promise(13, "2 the place that is mended (NONE if none is)");
        GarbleWords x = Due.book("go", "so");
        Due.send(x, "go/so/no/to/so");
        Due.garble(x, 3, "z");
        Due.garble(x, 4, "bbba");
        for (int word = 0; word < 5; word++) {
            due.is(Due.word(x, word), x.received(word, 2), NONE);
        }
        String[] texts = {"baaa", "abaa", "aaba", "aaab", "zaaa", "azaa", "aaza", "aaaz"};
        for (int i = 0; i < 8; i++) {
            Due.garble(x, 0, texts[i]);
            due.is(texts[i], x.received(0, 2), i % 4);
        }
        Due.garble(x, 0, "abba");
        due.is("not the place that was garbled", x.received(0, 2), 3);
    }

    private static void receivedForHowMany() {
        due.promise(13, "3 for how many words of the message it was sent");
        GarbleWords x = Due.book("go", "so/no", "to/mo/lo");
        Due.send(x, "go/zz/to/mo/lo/so/no");
        int[] want = {1, 1, 3, 2};
        for (int word = 0; word < 4; word++) {
            due.is(Due.word(x, word), x.received(word, 3), want[word]);
        }
        Due.garble(x, 2, "aaaa");
        due.is("received as another", x.received(2, 3), 3);
        Due.garble(x, 2, "zzza");
        due.is("wrong", x.received(2, 3), 3);
        x.drop(2);
        due.is("its entry is gone", x.received(2, 3), 3);
    }

    private static void receivedTextOfAnEntry() {
        due.promise(13, "4 whether the text as which it is received (the phrase of the entry, by the book of now");
        GarbleWords x = Due.book("go", "so/no");
        Due.send(x, "go/so/no");
        due.is("well", x.received(0, 4), 1);
        due.is("well", x.received(1, 4), 1);
        Due.garble(x, 0, "aaaz");
        due.is("mended", x.received(0, 4), 1);
        Due.garble(x, 0, "abbz");
        due.is("mended, as another", x.received(0, 4), 0);
        Due.garble(x, 0, "abbb");
        due.is("well, as another", x.received(0, 4), 0);
        x.drop(0);
        due.is("another entry is the first now", x.received(1, 4), 1);
        x.drop(0);
        Due.enter(x, "so");
        Due.enter(x, "so/no/so");
        due.is("the beginning of it is not the same", x.received(0, 4), 0);
        due.is("nor is a longer one", x.received(1, 4), 0);
        x.drop(0);
        x.recode(0, 0);
        Due.enter(x, "so/no");
        due.is("the phrase again, with the code word of now", x.received(1, 4), 1);
        GarbleWords y = new GarbleWords();
        Due.send(y, "zzz");
        Due.enter(y, "zzz");
        Due.garble(y, 0, "aaaa");
        due.is("a plain word, received as the entry with its text", y.received(0, 0) * 10 + y.received(0, 4), 1);
    }

    private static void receivedTextOfAPlainWord() {
        due.promise(13, "or the plain word without its check letter) is the one that was sent");
        GarbleWords x = Due.book("zzz", "zzz/go");
        Due.send(x, "zzz/zzz/go/g/ho/" + LONGEST);
        due.is("plain", x.received(2, 4), 1);
        due.is("the longest", x.received(4, 4), 1);
        Due.garble(x, 2, "hh");
        due.is("another one", x.received(2, 0) * 10 + x.received(2, 4), 20);
        Due.garble(x, 3, "ohp");
        due.is("its letters in another order", x.received(3, 0) * 10 + x.received(3, 4), 20);
        Due.garble(x, 4, "hgijklmnopqr");
        due.is("the same but for two letters", x.received(4, 0) * 10 + x.received(4, 4), 20);
        Due.garble(x, 0, "zzzx");
        due.is("a code word, received as its text", x.received(0, 0) * 10 + x.received(0, 4), 21);
        Due.garble(x, 1, "zzzx");
        due.is("as the beginning of its text", x.received(1, 0) * 10 + x.received(1, 4), 20);
    }

    private static void receivedWrongText() {
        due.promise(13, "(1 or 0; 0 if it is wrong)");
        GarbleWords x = Due.book("go", "so");
        Due.send(x, "go/so/no/" + LONGEST);
        Due.garble(x, 0, "aabb");
        Due.garble(x, 2, "noa");
        Due.garble(x, 3, LONGEST + "n");
        x.drop(1);
        for (int word = 0; word < 4; word++) {
            due.is(Due.word(x, word) + " is wrong", x.received(word, 0), WRONG);
            due.is("no text", x.received(word, 4), 0);
        }
        Due.send(x, "go/so/no/to");
        Due.garble(x, 1, "h");
        Due.garble(x, 3, "h");
        due.is("well", x.received(0, 4), 1);
        due.is("wrong, behind a code word that is well", x.received(1, 4), 0);
        due.is("well", x.received(2, 4), 1);
        due.is("wrong, behind a plain word that is well", x.received(3, 4), 0);
    }

    private static void receivedCost() {
        due.promise(13, "5 what it cost");
        GarbleWords x = Due.book("so/no");
        x.set(GarbleWords.COST, 7);
        Due.send(x, "so/no/z/ghijklmn/ghijklmno");
        int[] want = {7, 7, 7, 14};
        for (int word = 0; word < 4; word++) {
            due.is(Due.word(x, word), x.received(word, 5), want[word]);
        }
        x.set(GarbleWords.COST, 50);
        x.set(GarbleWords.WIDE, 2);
        x.drop(0);
        Due.garble(x, 0, "zzzx");
        for (int word = 0; word < 4; word++) {
            due.is("as it was sent", x.received(word, 5), want[word]);
        }
        x.sendAgain();
        due.is("anew", x.received(4, 5), 250);
    }

    private static void receivedNoSuchWord() {
        due.promise(13, "NO_SUCH if there is no such sent word");
        GarbleWords x = Due.book("go/so");
        due.is("nothing was sent", x.received(0, 0), NO_SUCH);
        due.is("ahead of BAD_VALUE", x.received(0, 6), NO_SUCH);
        Due.send(x, "go/so/no");
        for (int word : new int[] {-1, 2, 3, 12, Integer.MIN_VALUE, Integer.MAX_VALUE}) {
            for (int what = -1; what <= 6; what++) {
                due.is("received(" + word + ", " + what + ")", x.received(word, what), NO_SUCH);
            }
        }
    }

    private static void receivedOutOfRange() {
        due.promise(13, "BAD_VALUE if what is out of range.");
        GarbleWords x = Due.book("go");
        Due.send(x, "go/no");
        x.garble(1, 0, 0);
        for (int what : new int[] {-1, 6, 7, Integer.MIN_VALUE, Integer.MAX_VALUE}) {
            due.is("received(0, " + what + ")", x.received(0, what), BAD_VALUE);
            due.is("received(1, " + what + ")", x.received(1, what), BAD_VALUE);
        }
    }

    private static void howManyReceivedSo() {
        due.promise(14, "Returns how many sent words are received so. - how: 0 to 3");
        GarbleWords x = Due.book("go", "so");
        for (int how = 0; how <= 4; how++) {
            due.is("nothing was sent", x.receivedSo(how), 0);
        }
        Due.send(x, "go/so/go/no/to/mo/lo/so/so/zz");
        Due.garble(x, 0, "aaza");
        Due.garble(x, 1, "zbbb");
        Due.garble(x, 2, "cabb");
        Due.garble(x, 9, "a");
        Due.garble(x, 3, "zz");
        int[] want = {2, 2, 3, 3};
        for (int how = 0; how <= 3; how++) {
            due.is("receivedSo(" + how + ")", x.receivedSo(how), want[how]);
        }
        Due.send(x, "g/g/g/g/g/g/g/g/g/g/g/g");
        due.is("all of twelve", x.receivedSo(WELL_PLAIN), 12);
        x.undo();
        x.drop(0);
        x.drop(0);
        due.is("by the book of now", x.receivedSo(WRONG), 7);
    }

    private static void howManyMisread() {
        due.promise(14, "4: received as another text than was sent, without being wrong");
        GarbleWords x = Due.book("go", "so");
        Due.send(x, "go/so/go/g/h/i/j/so/go");
        due.is("none yet", x.receivedSo(4), 0);
        Due.garble(x, 1, "abba");
        due.is("mended is not misread", x.receivedSo(4), 0);
        Due.garble(x, 5, "zg");
        Due.garble(x, 8, "accc");
        due.is("wrong is not misread", x.receivedSo(4), 0);
        Due.garble(x, 2, "abbb");
        due.is("well, as another entry", x.receivedSo(4), 1);
        Due.garble(x, 7, "aaac");
        due.is("mended, as another entry", x.receivedSo(4), 2);
        Due.garble(x, 4, "gg");
        due.is("another plain word", x.receivedSo(4), 3);
        x.drop(0);
        Due.enter(x, "to");
        due.is("aaaa is another phrase now", x.receivedSo(4), 4);
    }

    private static void receivedSoOutOfRange() {
        due.promise(14, "BAD_VALUE if how is out of range.");
        GarbleWords x = new GarbleWords();
        for (int how : new int[] {-1, 5, 6, -6, Integer.MIN_VALUE, Integer.MAX_VALUE}) {
            due.is("receivedSo(" + how + ")", x.receivedSo(how), BAD_VALUE);
        }
        Due.send(x, "go");
        due.is("receivedSo(-1)", x.receivedSo(-1), BAD_VALUE);
        due.is("receivedSo(5)", x.receivedSo(5), BAD_VALUE);
    }
}
