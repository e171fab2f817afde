/** Promises 20 to 22: the pad. */
public final class PadTest {
    private static final Due due = new Due();

    public static void main(String[] args) {
        promise20Put();
        promise20PutErrors();
        promise20PutTooMany();
        promise21Wipe();
        promise22Fault();
        due.end();
    }

    private static void promise20Put() {
        GarbleWords x = new GarbleWords();
        due.is("one", x.put(Due.packed("g")), 1);
        due.is("eight", x.put(Due.packed("hijklmno")), 9);
        due.is("two", x.put(Due.packed("/z")), 11);
        due.is("lowest", x.put(33), 12);
        due.is("highest", x.put(126), 13);
        due.is("all the highest", x.put(Due.packed("~~~~~~~~")), 21);
        due.is("no change", x.count(11), 0);
        due.is("its length", x.count(10), 21);
        Due.type(x, "ghijklmno/z");
        x.enter();
        String phrase = "ghijklmno/z";
        for (int place = 0; place < phrase.length(); place++) {
            due.is("in their order", x.phraseSign(0, place), phrase.charAt(place));
        }
    }

    private static void promise20PutErrors() {
        GarbleWords x = new GarbleWords();
        due.is("none", x.put(0), GarbleWords.BAD_VALUE);
        due.is("code 32", x.put(32), GarbleWords.BAD_VALUE);
        due.is("code 127", x.put(127), GarbleWords.BAD_VALUE);
        due.is("code 255", x.put(255), GarbleWords.BAD_VALUE);
        due.is("code 1 ahead", x.put(1 << 8 | 'g'), GarbleWords.BAD_VALUE);
        due.is("a gap", x.put((long) 'g' << 16 | 'h'), GarbleWords.BAD_VALUE);
        due.is("a gap at the end", x.put((long) 'g' << 8), GarbleWords.BAD_VALUE);
        due.is("a bit above", x.put(1L << 63 | 'h'), GarbleWords.BAD_VALUE);
        due.is("a bit above", x.put(1L << 16 | 'h'), GarbleWords.BAD_VALUE);
        due.is("-1", x.put(-1), GarbleWords.BAD_VALUE);
        due.is("MIN", x.put(Long.MIN_VALUE), GarbleWords.BAD_VALUE);
        due.is("MAX", x.put(Long.MAX_VALUE), GarbleWords.BAD_VALUE);
        due.is("eighth code above 126", x.put(Due.packed("ggggggg") | 200L << 56), GarbleWords.BAD_VALUE);
        due.is("the pad stays", x.count(10), 0);
    }

    private static void promise20PutTooMany() {
        GarbleWords x = new GarbleWords();
        for (int i = 1; i <= 9; i++) {
            due.is("put", x.put(Due.packed("gggg/ggg")), 8 * i);
        }
        due.is("79", x.put(Due.packed("gg/gggg")), 79);
        due.is("81", x.put(Due.packed("gg")), GarbleWords.TOO_MANY);
        due.is("BAD_VALUE ahead of TOO_MANY", x.put(Due.packed("g ")), GarbleWords.BAD_VALUE);
        due.is("80", x.put(Due.packed("g")), 80);
        due.is("81", x.put(Due.packed("g")), GarbleWords.TOO_MANY);
        due.is("the pad stays", x.count(10), 80);
        due.is("a full pad is read", x.fault(), GarbleWords.NONE);
        due.is("a full pad is sent", x.send(), 110);
    }

    private static void promise21Wipe() {
        GarbleWords x = new GarbleWords();
        due.is("empty", x.wipe(), 0);
        Due.type(x, "ghijklmnopqr/go");
        due.is("its length", x.wipe(), 15);
        due.is("empty then", x.wipe(), 0);
        due.is("empty then", x.count(10), 0);
        due.is("put begins anew", x.put('g'), 1);
        due.is("no change", x.count(11), 0);
    }

    private static void fault(String text, int want) {
        GarbleWords x = new GarbleWords();
        Due.type(x, text);
        due.is("fault of " + text, x.fault(), want);
        due.is("nothing changes", x.count(10), text.length());
    }

    private static void promise22Fault() {
        fault("", 0);
        fault("g", GarbleWords.NONE);
        fault("z/g", GarbleWords.NONE);
        fault("g/", 2);
        fault("/", 0);
        fault("/g", 0);
        fault("g//g", 2);
        fault("a", 0);
        fault("gf", 1);
        fault("g{", 1);
        fault("gG", 1);
        fault("g.g", 1);
        fault("g/a//", 2);
        fault("ghijklmnopqr", GarbleWords.NONE);
        fault("ghijklmnopqrs", 12);
        fault("ghijklmnopqra", 12);
        fault("ghijklmnopqr/", 13);
        fault("g/ghijklmnopqrs/g", 14);
        fault("g/h/i/j", GarbleWords.NONE);
        fault("g/h/i/j/k/l/m/n/o/p/q/r", GarbleWords.NONE);
        fault("g/h/i/j/k/l/m/n/o/p/q/r/", 23);
        fault("g/h/i/j/k/l/m/n/o/p/q/r/s", 23);
        fault("g/h/i/j/k/l/m/n/o/p/q/", 22);
        fault("gg/hh/ii/jj/kk/ll/mm/nn/oo/pp/qq/rrr!", 36);
    }
}
