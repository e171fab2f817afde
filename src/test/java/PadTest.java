/** The pad: the terms, put, wipe and fault (promises 20 to 22). */
public final class PadTest {
    private static final int BAD_VALUE = GarbleWords.BAD_VALUE, TOO_MANY = GarbleWords.TOO_MANY;
    private static final int BAD_TEXT = GarbleWords.BAD_TEXT, NONE = GarbleWords.NONE;
    private static final String LONGEST = "ghijklmnopqr", TWELVE = "g/h/i/j/k/l/m/n/o/p/q/r";

    private static final Due due = new Due();

    public static void main(String[] args) {
        eightyCharacters();
        plainWordsAndSigns();
        firstCharacterThatCannotStand();
        somethingElse();
        signNotBehindAWord();
        thirteenthLetter();
        signBehindTheTwelfthWord();
        endsTooEarly();
        putAppends();
        putLastCharacterLowest();
        putNoMoreCharacters();
        putOneToEight();
        putReturnsTheLength();
        putNoCharacter();
        putCodes();
        putBitsAbove();
        putTooMany();
        wipeEmpties();
        wipeReturnsTheLength();
        faultOfThePad();
        faultNone();
        due.end();
    }

    private static void eightyCharacters() {
        due.term("The pad is a text of at most 80 characters.");
        GarbleWords x = new GarbleWords();
        Due.type(x, "gggg/ggg".repeat(10));
        due.is("eighty", x.count(10), 80);
        due.is("one more", x.put('g'), TOO_MANY);
        due.is("eighty", x.count(10), 80);
        due.is("all of them are read", x.fault(), NONE);
        due.is("all of them are sent", x.send(), 110);
        due.is("words", x.count(1), 11);
        due.word(x, 10, "gggg");
        Due.type(x, "gggg/ggg".repeat(9) + "gggg/gga");
        due.is("the last one is read", x.fault(), 79);
    }

    private static void plainWordsAndSigns() {
        due.term("As a phrase or as a message it is plain words with \"/\" between them.");
        GarbleWords x = new GarbleWords();
        Due.enter(x, "gh/ijk/l");
        due.phrase(x, 0, "gh/ijk/l");
        Due.send(x, "z/yx/wvu/t");
        due.is("words", x.count(1), 4);
        String[] words = {"zz", "yxv", "wvul", "tt"};
        for (int word = 0; word < 4; word++) {
            due.word(x, word, words[word]);
        }
    }

    private static void fault(String text, int want) {
        GarbleWords x = new GarbleWords();
        Due.type(x, text);
        due.is("fault of " + text, x.fault(), want);
        due.is("fault, asked again", x.fault(), want);
        due.is("the pad stays", x.count(10), text.length());
        due.is("it is sent", x.send() == BAD_TEXT ? 0 : 1, want == NONE ? 1 : 0);
    }

    private static void firstCharacterThatCannotStand() {
        due.term("The fault of the pad is the index of the first character that cannot stand at its place when it is"
            + " read from left to right as a message");
        fault("a", 0);
        fault("ab", 0);
        fault("ga//b", 1);
        fault("g//ab", 2);
        fault("/g//", 0);
        fault("g/a//", 2);
        fault("ghijklmnopqrs//", 12);
        fault(TWELVE + "/a", 23);
        fault("g".repeat(8) + "/" + LONGEST + "/z!", 23);
        fault("g/h/i/j", NONE);
    }

    private static void somethingElse() {
        due.term("something else than plain letters and \"/\",");
        for (char sign = 33; sign <= 126; sign++) {
            boolean isPlain = sign >= 'g' && sign <= 'z';
            int behindAWord = isPlain ? NONE : sign == '/' ? 2 : 1;
            fault("g" + sign, behindAWord);
            fault("" + sign, isPlain ? NONE : 0);
        }
        fault("g{", 1);
        fault("gf", 1);
        fault("gG", 1);
        fault("g.", 1);
        fault("g0", 1);
    }

    private static void signNotBehindAWord() {
        due.term("a \"/\" that is not behind a word,");
        fault("/", 0);
        fault("//", 0);
        fault("/go", 0);
        fault("go//", 3);
        fault("go//so", 3);
        fault("go/so//", 6);
        fault("g/", 2);
    }

    private static void thirteenthLetter() {
        due.term("a thirteenth letter of a word,");
        fault(LONGEST, NONE);
        fault(LONGEST + "s", 12);
        fault(LONGEST + "st", 12);
        fault(LONGEST + "a", 12);
        fault(LONGEST + "/", 13);
        fault(LONGEST + "/" + LONGEST, NONE);
        fault("g/" + LONGEST + "s/g", 14);
        fault(LONGEST + "/" + LONGEST + "s", 25);
    }

    private static void signBehindTheTwelfthWord() {
        due.term("a \"/\" behind the twelfth word);");
        fault(TWELVE, NONE);
        fault(TWELVE + "/", 23);
        fault(TWELVE + "/s", 23);
        fault(TWELVE + "//", 23);
        fault("g/h/i/j/k/l/m/n/o/p/q", NONE);
        fault("g/h/i/j/k/l/m/n/o/p/q/", 22);
        fault("gg/hh/ii/jj/kk/ll/mm/nn/oo/pp/qq/rrr/", 36);
    }

    private static void endsTooEarly() {
        due.term("if there is none and it ends too early (it is empty, or ends with \"/\"), it is its length.");
        fault("", 0);
        fault("g/", 2);
        fault("go/so/", 6);
        fault("g/h/i/j/k/l/m/n/o/p/q/", 22);
        fault((LONGEST + "/").repeat(6) + "g/", 80);
        fault((LONGEST + "/").repeat(6) + "gh", NONE);
        fault("a/", 0);
    }

    private static void putAppends() {
        due.promise(20, "Appends characters to the pad.");
        GarbleWords x = new GarbleWords();
        x.put(Due.packed("g"));
        x.put(Due.packed("hijklmno"));
        x.put(Due.packed("/z"));
        due.is("no change", x.count(11), 0);
        x.enter();
        due.phrase(x, 0, "ghijklmno/z");
        x.put(Due.packed("so"));
        x.enter();
        due.phrase(x, 1, "so");
    }

    private static void putLastCharacterLowest() {
        due.promise(20, "They are given as a number: its lowest 8 bits are the last character, the next 8 bits the one"
            + " before, and so on;");
        GarbleWords x = new GarbleWords();
        x.put('g' << 8 | 'h');
        x.enter();
        due.phrase(x, 0, "gh");
        x.put(0x6768696a6b6c6d6eL);
        x.enter();
        due.phrase(x, 1, "ghijklmn");
        x.put(0x7aL);
        x.enter();
        due.phrase(x, 2, "z");
    }

    private static void putNoMoreCharacters() {
        due.promise(20, "8 bits that are 0 mean that there are no more characters, and everything above them has to be"
            + " 0, too.");
        GarbleWords x = new GarbleWords();
        for (int characters = 1; characters <= 7; characters++) {
            long number = Due.packed("g".repeat(characters));
            due.is(characters + " characters", x.put(number), characters);
            x.wipe();
            for (int bit = 8 * characters + 8; bit < 64; bit++) {
                due.is("bit " + bit, x.put(number | 1L << bit), BAD_VALUE);
            }
        }
        due.is("the pad stays", x.count(10), 0);
    }

    private static void putOneToEight() {
        due.promise(20, "characters: 1 to 8 characters");
        for (int characters = 1; characters <= 8; characters++) {
            GarbleWords x = new GarbleWords();
            String text = "ghijklmn".substring(0, characters);
            due.is("put " + text, x.put(Due.packed(text)), characters);
            x.enter();
            due.phrase(x, 0, text);
        }
        due.is("none", new GarbleWords().put(0), BAD_VALUE);
    }

    private static void putReturnsTheLength() {
        due.promise(20, "Returns the length of the pad then");
        GarbleWords x = new GarbleWords();
        due.is("one", x.put('g'), 1);
        due.is("nine", x.put(Due.packed("hijklmno")), 9);
        due.is("eleven", x.put(Due.packed("/z")), 11);
        x.put(0);
        due.is("not of a refused one", x.put('g'), 12);
        x.wipe();
        due.is("anew", x.put('g'), 1);
        Due.type(x, "g".repeat(72));
        due.is("full", x.put(Due.packed("gggggggg")), 80);
    }

    private static void putNoCharacter() {
        due.promise(20, "BAD_VALUE if there is no character");
        GarbleWords x = new GarbleWords();
        due.is("put(0)", x.put(0), BAD_VALUE);
        due.is("the pad stays", x.count(10), 0);
        Due.type(x, "gggggggg".repeat(10));
        due.is("with a full pad", x.put(0), BAD_VALUE);
        due.is("the pad stays", x.count(10), 80);
    }

    private static void putCodes() {
        due.promise(20, "a code is not 33 to 126");
        GarbleWords x = new GarbleWords();
        for (int code = 1; code <= 255; code++) {
            boolean fits = code >= 33 && code <= 126;
            due.is("code " + code, x.put(code), fits ? 1 : BAD_VALUE);
            x.wipe();
            due.is("code " + code + " before another", x.put(code << 8 | 'g'), fits ? 2 : BAD_VALUE);
            x.wipe();
            due.is("code " + code + " as the eighth", x.put((long) code << 56 | Due.packed("ggggggg")),
                fits ? 8 : BAD_VALUE);
            x.wipe();
        }
        for (long number : new long[] {-1, Long.MIN_VALUE, Long.MAX_VALUE, -'g', Integer.MIN_VALUE}) {
            due.is("put(" + number + ")", x.put(number), BAD_VALUE);
        }
        due.is("the pad stays", x.count(10), 0);
    }

    private static void putBitsAbove() {
        due.promise(20, "or a bit above 8 bits that are 0 is not 0");
        GarbleWords x = new GarbleWords();
        due.is("a gap between", x.put('g' << 16 | 'h'), BAD_VALUE);
        due.is("a gap behind", x.put('g' << 8), BAD_VALUE);
        due.is("a gap of three", x.put((long) 'g' << 32 | 'h'), BAD_VALUE);
        due.is("the lowest bit", x.put(1L << 16 | 'h'), BAD_VALUE);
        due.is("the highest bit", x.put(Long.MIN_VALUE | 'h'), BAD_VALUE);
        due.is("the pad stays", x.count(10), 0);
    }

    private static void putTooMany() {
        due.promise(20, "TOO_MANY if the pad would be longer than 80.");
        for (int length = 70; length <= 80; length++) {
            for (int characters = 1; characters <= 8; characters++) {
                GarbleWords x = new GarbleWords();
                Due.type(x, "~".repeat(length));
                int then = length + characters;
                due.is(then + " characters", x.put(Due.packed("!".repeat(characters))), then <= 80 ? then : TOO_MANY);
                due.is("the length", x.count(10), then <= 80 ? then : length);
            }
        }
        GarbleWords x = new GarbleWords();
        Due.type(x, "~".repeat(80));
        due.is("behind BAD_VALUE", x.put(32), BAD_VALUE);
        due.is("behind BAD_VALUE", x.put(Long.MIN_VALUE | 'h'), BAD_VALUE);
    }

    private static void wipeEmpties() {
        due.promise(21, "Empties the pad");
        GarbleWords x = new GarbleWords();
        Due.type(x, "go/so/");
        x.wipe();
        due.is("length", x.count(10), 0);
        due.is("fault", x.fault(), 0);
        due.is("no change", x.count(11), 0);
        x.put('z');
        x.enter();
        due.phrase(x, 0, "z");
    }

    private static void wipeReturnsTheLength() {
        due.promise(21, "and returns the length that it had.");
        GarbleWords x = new GarbleWords();
        due.is("empty", x.wipe(), 0);
        Due.type(x, "ghijklmnopqr/go");
        due.is("fifteen", x.wipe(), 15);
        due.is("empty then", x.wipe(), 0);
        Due.type(x, "~".repeat(80));
        due.is("full", x.wipe(), 80);
    }

    private static void faultOfThePad() {
        due.promise(22, "Returns the fault of the pad");
        GarbleWords x = new GarbleWords();
        due.is("empty", x.fault(), 0);
        x.put('g');
        due.is("g", x.fault(), NONE);
        x.put('/');
        due.is("g/", x.fault(), 2);
        x.put('/');
        due.is("g//", x.fault(), 2);
        x.wipe();
        due.is("empty", x.fault(), 0);
    }

    private static void faultNone() {
        due.promise(22, "NONE if there is none.");
        GarbleWords x = new GarbleWords();
        for (String text : new String[] {"g", "z", "g/z", TWELVE, LONGEST, (LONGEST + "/").repeat(6) + "gg"}) {
            Due.type(x, text);
            due.is("fault of " + text, x.fault(), NONE);
        }
    }
}
