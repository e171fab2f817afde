/** Letters, words, the book: what the terms say of them, looked at through the calls. */
public final class WordsTest {
    private static final int BAD_TEXT = GarbleWords.BAD_TEXT, NO_SUCH = GarbleWords.NO_SUCH;
    private static final int TOO_MANY = GarbleWords.TOO_MANY, NOT_POSSIBLE = GarbleWords.NOT_POSSIBLE;
    private static final String LONGEST = "ghijklmnopqr";

    private static final Due due = new Due();

    public static void main(String[] args) {
        plainLetters();
        codeLetters();
        lengthOfPlainWords();
        lengthOfPhrases();
        lettersOfCodeWords();
        numbersOfCodeWords();
        distances();
        sixteenEntries();
        orderOfEntries();
        phraseAndCodeWordEach();
        entriesMoveUp();
        noTwoPhrasesAlike();
        noTwoCodeWordsAlike();
        due.end();
    }

    private static void plainLetters() {
        due.term("Plain letters are g to z (numbered 0 to 19)");
        for (char letter = 33; letter <= 126; letter++) {
            boolean isPlain = letter >= 'g' && letter <= 'z';
            due.is("a word of " + letter, Due.enter(new GarbleWords(), "" + letter), isPlain ? 0 : BAD_TEXT);
        }
        GarbleWords x = new GarbleWords();
        // The check letter of a word of one letter has the letter's own number, and behind a z one less than it.
        Due.send(x, "g/h/y/z/zg/zh/zz");
        for (int word = 0; word < 7; word++) {
            due.word(x, word, new String[] {"gg", "hh", "yy", "zz", "zgz", "zhg", "zzy"}[word]);
        }
    }

    private static void codeLetters() {
        due.term("code letters a to f (0 to 5)");
        for (int number = 0; number <= 5; number++) {
            GarbleWords x = Due.book("go");
            x.recode(0, number * (216 + 36 + 6 + 1));
            Due.send(x, "go");
            for (int place = 0; place < 4; place++) {
                due.is("letter of " + number, x.letter(0, place), number);
            }
        }
        GarbleWords x = Due.book("go");
        Due.send(x, "go");
        Due.garble(x, 0, "aaff");
        due.is("f is a code letter: no plain word", x.received(0, 0), 3);
        x.recode(0, Due.code("aafa"));
        due.is("f is a code letter: a code word", x.received(0, 0), 1);
        Due.garble(x, 0, "aagg");
        due.is("g is none", x.received(0, 0), 3);
    }

    private static void lengthOfPlainWords() {
        due.term("A plain word has 1 to 12 plain letters.");
        for (int letters = 1; letters <= 14; letters++) {
            String word = "z".repeat(letters);
            due.is(letters + " entered", Due.enter(new GarbleWords(), word), letters <= 12 ? 0 : BAD_TEXT);
            int cost = letters <= 8 ? 10 : 20;
            due.is(letters + " sent", Due.send(new GarbleWords(), word), letters <= 12 ? cost : BAD_TEXT);
        }
        for (String text : new String[] {"", "/go", "go//so", "go/"}) {
            due.is("a word of no letter in " + text, Due.send(new GarbleWords(), text), BAD_TEXT);
        }
        GarbleWords x = Due.book(LONGEST, "z");
        due.is("twelve are kept", x.entry(0, 2), 12);
        due.phrase(x, 0, LONGEST);
        due.phrase(x, 1, "z");
    }

    private static void lengthOfPhrases() {
        due.term("A phrase is 1 to 3 plain words, with \"/\" between them.");
        String[] phrases = {"z", "z/y", "z/y/x", LONGEST + "/" + LONGEST + "/" + LONGEST};
        GarbleWords x = Due.book(phrases);
        due.is("entries", x.count(0), 4);
        for (int entry = 0; entry < 4; entry++) {
            due.phrase(x, entry, phrases[entry]);
        }
        for (String text : new String[] {"", "z/y/x/w", "go.so", "go-so", "go\\so"}) {
            due.is("phrase " + text, Due.enter(x, text), BAD_TEXT);
        }
    }

    private static void lettersOfCodeWords() {
        due.term("A code word has 4 code letters");
        GarbleWords x = Due.fullBook();
        Due.send(x, "g/k/o/q/r/s/t/u/v");
        for (int word = 0; word < 9; word++) {
            for (int place = 0; place < 4; place++) {
                due.yes("a code letter", x.letter(word, place) >= 0 && x.letter(word, place) <= 5);
            }
            due.is("no fifth letter", x.letter(word, 4), GarbleWords.NONE);
        }
    }

    private static void numbersOfCodeWords() {
        due.term("its number is that of its letters as digits to the base 6, the first one being the highest digit"
            + " (0 to 1295)");
        int[] numbers = {0, 1, 5, 6, 35, 36, 215, 216, 1080, 51, 1295};
        String[] words = {"aaaa", "aaab", "aaaf", "aaba", "aaff", "abaa", "afff", "baaa", "faaa", "abcd", "ffff"};
        GarbleWords x = Due.book("go");
        for (int i = 0; i < numbers.length; i++) {
            x.recode(0, numbers[i]);
            due.is("number", x.entry(0, 0), numbers[i]);
            Due.send(x, "go");
            due.word(x, 0, words[i]);
        }
        for (int number = 0; number <= 1295; number++) {
            x.recode(0, number);
            x.sendAgain();
            due.is("number of the letters", Due.code(Due.word(x, 0)), number);
        }
    }

    private static void distances() {
        due.term("The distance of two code words is the number of places at which they have unlike letters.");
        String[][] pairs = {
            {"abcd", "abcd"}, {"abcd", "abce"}, {"abcd", "abfd"}, {"abcd", "aacd"}, {"abcd", "fbcd"},
            {"abcd", "abdc"}, {"abcd", "afcf"}, {"abcd", "bacd"}, {"abcd", "fbca"}, {"abcd", "acdb"},
            {"abcd", "bbdc"}, {"abcd", "bcda"}, {"aaaa", "ffff"}};
        int[] want = {0, 1, 1, 1, 1, 2, 2, 2, 2, 3, 3, 4, 4};
        GarbleWords x = new GarbleWords();
        for (int i = 0; i < pairs.length; i++) {
            int code = Due.code(pairs[i][0]), other = Due.code(pairs[i][1]);
            due.is("distance of " + pairs[i][0] + " and " + pairs[i][1], x.distance(code, other), want[i]);
            due.is("distance of " + pairs[i][1] + " and " + pairs[i][0], x.distance(other, code), want[i]);
        }
        int wrong = 0;
        for (int code = 0; code < 1296; code++) {
            for (int other = 0; other < 1296; other++) {
                int unlike = 0;
                for (int unit = 1; unit < 1296; unit *= 6) {
                    unlike += code / unit % 6 == other / unit % 6 ? 0 : 1;
                }
                wrong += x.distance(code, other) == unlike ? 0 : 1;
            }
        }
        due.is("wrong ones of all pairs", wrong, 0);
    }

    private static void sixteenEntries() {
        due.term("The book has up to 16 entries");
        GarbleWords x = Due.fullBook();
        due.is("entries", x.count(0), 16);
        due.is("the last one", x.phraseSign(15, 0), 'v');
        due.is("none behind it", x.entry(16, 0), NO_SUCH);
        due.is("a 17th", Due.enter(x, "w"), TOO_MANY);
        due.is("entries", x.count(0), 16);
        // The seventeenth word has no entry: sent plain, with its check letter.
        Due.send(x, "v/w");
        due.is("the last one is used", x.received(0, 1), 15);
        due.word(x, 1, "ww");
    }

    private static void phraseAndCodeWordEach() {
        due.term("a phrase and a code word each.");
        GarbleWords x = Due.book("zz", "go/so");
        due.phrase(x, 0, "zz");
        due.is("code word", x.entry(0, 0), 0);
        due.phrase(x, 1, "go/so");
        due.is("code word", x.entry(1, 0), 43);
    }

    private static void orderOfEntries() {
        due.term("numbered in the order in which they came");
        GarbleWords x = Due.book("zz", "go/so", "a", "mm/m", "go");
        String[] phrases = {"zz", "go/so", "mm/m", "go"};
        due.is("entries", x.count(0), 4);
        for (int entry = 0; entry < 4; entry++) {
            due.phrase(x, entry, phrases[entry]);
            due.is("code word", x.entry(entry, 0), 43 * entry);
        }
        x.recode(0, 1295);
        due.phrase(x, 0, "zz");
        x.drop(0);
        Due.enter(x, "zz");
        due.phrase(x, 3, "zz");
    }

    private static void entriesMoveUp() {
        due.term("(when one is dropped, those behind it move up)");
        String[] phrases = {"g", "gg/hh/ii", "z/yy", "so/no/to", "x"};
        for (int dropped = 0; dropped < 5; dropped++) {
            GarbleWords x = Due.book(phrases);
            x.drop(dropped);
            due.is("entries", x.count(0), 4);
            for (int entry = 0; entry < 4; entry++) {
                int was = entry < dropped ? entry : entry + 1;
                due.phrase(x, entry, phrases[was]);
                due.is("code word", x.entry(entry, 0), 43 * was);
            }
            due.is("the last number is free", x.entry(4, 0), NO_SUCH);
        }
        GarbleWords full = Due.fullBook();
        full.drop(0);
        for (int entry = 0; entry < 15; entry++) {
            due.is("all of sixteen", full.phraseSign(entry, 0), 'h' + entry);
        }
        due.is("the last number is free", full.phraseSign(15, 0), NO_SUCH);
    }

    private static void noTwoPhrasesAlike() {
        due.term("No two entries have the same phrase");
        String[] phrases = {"go", "so", "go/so", "so/go", "gos", "go/so/go", "gosogo", "oo/oo/oo"};
        GarbleWords x = Due.book(phrases);
        due.is("these are not the same", x.count(0), 8);
        for (String phrase : phrases) {
            due.is("again: " + phrase, Due.enter(x, phrase), NOT_POSSIBLE);
        }
        due.is("entries", x.count(0), 8);
        x.drop(0);
        due.is("a dropped one", Due.enter(x, "go"), 0);
        due.is("now not again", Due.enter(x, "go"), NOT_POSSIBLE);
    }

    private static void noTwoCodeWordsAlike() {
        due.term("or the same code word.");
        GarbleWords x = new GarbleWords();
        x.set(GarbleWords.APART, 1);
        for (int entry = 0; entry < 5; entry++) {
            due.is("the next one", Due.enter(x, "g".repeat(entry + 1)), entry);
        }
        for (int entry = 0; entry < 5; entry++) {
            for (int other = 0; other < 5; other++) {
                int want = entry == other ? entry : NOT_POSSIBLE;
                due.is("recode(" + entry + ", " + other + ")", x.recode(entry, other), want);
            }
        }
    }
}
