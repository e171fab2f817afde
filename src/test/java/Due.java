/** Compares answers with those that are due, and types texts into a pad. */
final class Due {
    private int wrong = 0;
    private int looked = 0;

    void is(String call, long got, long want) {
        looked++;
        if (got != want) {
            wrong++;
            System.out.println(call + " answered " + got + ", due is " + want);
        }
    }

    /** Tells what was wrong by the exit code. */
    void end() {
        System.out.println(looked + " answers, " + wrong + " of them not as due");
        if (wrong != 0 || looked == 0) {
            System.exit(1);
        }
    }

    /** The number by which up to eight characters are put. */
    static long packed(String text) {
        long number = 0;
        for (int i = 0; i < text.length(); i++) {
            number = number << 8 | text.charAt(i);
        }
        return number;
    }

    /** Empties the pad, and types a text into it. */
    static void type(GarbleWords x, String text) {
        x.wipe();
        for (int i = 0; i < text.length(); i += 8) {
            x.put(packed(text.substring(i, Math.min(text.length(), i + 8))));
        }
    }

    static int enter(GarbleWords x, String phrase) {
        type(x, phrase);
        return x.enter();
    }

    static int send(GarbleWords x, String message) {
        type(x, message);
        return x.send();
    }

    static int costOf(GarbleWords x, String message) {
        type(x, message);
        return x.costOf();
    }

    /** A sent word as it is received, as a text. */
    static String word(GarbleWords x, int word) {
        StringBuilder text = new StringBuilder();
        for (int place = 0; place < 20 && x.letter(word, place) >= 0; place++) {
            text.append((char) ('a' + x.letter(word, place)));
        }
        return text.toString();
    }

    void word(GarbleWords x, int word, String want) {
        String got = word(x, word);
        looked++;
        if (!got.equals(want)) {
            wrong++;
            System.out.println("sent word " + word + " is " + got + ", due is " + want);
        }
    }

    /** Garbles a sent word into another text of the same length. */
    static void garble(GarbleWords x, int word, String text) {
        for (int place = 0; place < text.length(); place++) {
            x.garble(word, place, text.charAt(place) - 'a');
        }
    }

    /** The sixteen phrases g, h, .. v, entered in this order. */
    static GarbleWords fullBook() {
        GarbleWords x = new GarbleWords();
        for (char c = 'g'; c <= 'v'; c++) {
            enter(x, String.valueOf(c));
        }
        return x;
    }
}
