/** Compares answers with those that are due, under the sentence of the document that they are about. */
final class Due {
    private String sentence = "";
    private int sentences = 0;
    private int wrong = 0;
    private int looked = 0;
    private int lookedBefore = 0;

    /** Names the sentence of a promise that the next answers are about. */
    void promise(int number, String words) {
        begin("promise " + number + ", " + words);
    }

    /** Names the sentence of the terms that the next answers are about. */
    void term(String words) {
        begin("terms, " + words);
    }

    private void begin(String words) {
        endSentence();
        sentence = words;
        sentences++;
        lookedBefore = looked;
    }

    private void endSentence() {
        if (sentences > 0 && looked == lookedBefore) {
            fail("nothing was looked at");
        }
    }

    private void fail(String what) {
        wrong++;
        System.out.println(sentence.isEmpty() ? what : "[" + sentence + "] " + what);
    }

    void is(String call, long got, long want) {
        looked++;
        if (got != want) {
            fail(call + " answered " + got + ", due is " + want);
        }
    }

    void yes(String what, boolean holds) {
        is(what, holds ? 1 : 0, 1);
    }

    void same(String what, String got, String want) {
        looked++;
        if (!got.equals(want)) {
            fail(what + " is " + got + ", due is " + want);
        }
    }

    /** Looks at a sent word as it is received. */
    void word(GarbleWords x, int word, String want) {
        same("sent word " + word, word(x, word), want);
    }

    /** Looks at the phrase of an entry. */
    void phrase(GarbleWords x, int entry, String want) {
        same("phrase " + entry, phrase(x, entry), want);
    }

    /** Tells what was wrong by the exit code. */
    void end() {
        endSentence();
        String about = sentences == 0 ? "" : " about " + sentences + " sentences";
        System.out.println(looked + " answers" + about + ", " + wrong + " of them not as due");
        if (wrong != 0 || looked == 0) {
            System.exit(1);
        }
    }

    /** The number by which up to eight characters are put. */
    static long packed(String text) {
        long number = 0;
        for (int i = 0; i < text.length(); i++) {
            number = number << 8 | text.charAt(i);
        }
        return number;
    }

    /** Empties the pad, and types a text into it. */
    static void type(GarbleWords x, String text) {
        x.wipe();
        for (int i = 0; i < text.length(); i += 8) {
            x.put(packed(text.substring(i, Math.min(text.length(), i + 8))));
        }
    }

    static int enter(GarbleWords x, String phrase) {
        type(x, phrase);
        return x.enter();
    }

    static int send(GarbleWords x, String message) {
        type(x, message);
        return x.send();
    }

    static int costOf(GarbleWords x, String message) {
        type(x, message);
        return x.costOf();
    }

    /** A sent word as it is received, as a text. */
    static String word(GarbleWords x, int word) {
        StringBuilder text = new StringBuilder();
        for (int place = 0; place < 20 && x.letter(word, place) >= 0; place++) {
            text.append((char) ('a' + x.letter(word, place)));
        }
        return text.toString();
    }

    static String phrase(GarbleWords x, int entry) {
        StringBuilder text = new StringBuilder();
        for (int place = 0; place < 60 && x.phraseSign(entry, place) >= 0; place++) {
            text.append((char) x.phraseSign(entry, place));
        }
        return text.toString();
    }

    /** Garbles the first letters of a sent word into a text. */
    static void garble(GarbleWords x, int word, String text) {
        for (int place = 0; place < text.length(); place++) {
            x.garble(word, place, text.charAt(place) - 'a');
        }
    }

    /** The number of a code word. */
    static int code(String letters) {
        int number = 0;
        for (char letter : letters.toCharArray()) {
            number = number * 6 + letter - 'a';
        }
        return number;
    }

    /** A book with phrases, entered in this order. */
    static GarbleWords book(String... phrases) {
        GarbleWords x = new GarbleWords();
        for (String phrase : phrases) {
            enter(x, phrase);
        }
        return x;
    }

    /** The sixteen phrases g, h, .. v, entered in this order. */
    static GarbleWords fullBook() {
        GarbleWords x = new GarbleWords();
        for (char c = 'g'; c <= 'v'; c++) {
            enter(x, String.valueOf(c));
        }
        return x;
    }

    /** All that questions tell, beside the pad, the history and the slots. */
    static String state(GarbleWords x) {
        StringBuilder text = new StringBuilder();
        for (int what = 0; what <= 9; what++) {
            text.append(x.count(what)).append(' ');
        }
        for (int entry = 0; entry < x.count(0); entry++) {
            text.append("| ").append(phrase(x, entry));
            for (int what = 0; what < 6; what++) {
                text.append(' ').append(x.entry(entry, what));
            }
            text.append(' ').append(x.saves(entry));
        }
        for (int word = 0; word < x.count(2); word++) {
            text.append("| ").append(word(x, word));
            for (int what = 0; what < 6; what++) {
                text.append(' ').append(x.received(word, what));
            }
        }
        text.append("| ");
        for (int how = 0; how <= 4; how++) {
            text.append(x.receivedSo(how)).append(' ');
        }
        for (int what = 0; what <= 2; what++) {
            text.append(x.bestPhrase(what)).append(' ');
        }
        return text.append(x.left()).toString();
    }
}
