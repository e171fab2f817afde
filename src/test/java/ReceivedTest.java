/** Promises 12 to 14: what was sent, and is received. */
public final class ReceivedTest {
    private static final Due due = new Due();
    private static final int NONE = GarbleWords.NONE;

    public static void main(String[] args) {
        promise12Letter();
        promise13Errors();
        promise13CodeWords();
        promise13Mending();
        promise13PlainWords();
        promise13AllOfOneLetter();
        promise13AnotherText();
        promise13ByTheBookOfNow();
        promise14ReceivedSo();
        due.end();
    }

    private static void received(GarbleWords x, int word, int... want) {
        for (int what = 0; what < want.length; what++) {
            due.is(Due.word(x, word) + ": received(" + word + ", " + what + ")", x.received(word, what), want[what]);
        }
    }

    private static void promise12Letter() {
        GarbleWords x = new GarbleWords();
        due.is("nothing was sent", x.letter(0, -1), GarbleWords.NO_SUCH);
        Due.enter(x, "go");
        Due.send(x, "go/zzz/ghijklmnopqr");
        due.word(x, 0, "aaaa");
        due.word(x, 1, "zzzx");
        due.word(x, 2, "ghijklmnopqrm");
        due.is("no sent word", x.letter(3, 0), GarbleWords.NO_SUCH);
        due.is("no sent word", x.letter(-1, -1), GarbleWords.NO_SUCH);
        due.is("place below 0", x.letter(0, -1), GarbleWords.BAD_VALUE);
        due.is("no such place", x.letter(0, 4), NONE);
        due.is("no such place", x.letter(2, 13), NONE);
        due.is("no such place", x.letter(1, Integer.MAX_VALUE), NONE);
        x.garble(1, 3, 0);
        due.is("as it is received", x.letter(1, 3), 0);
    }

    private static void promise13Errors() {
        GarbleWords x = new GarbleWords();
        due.is("nothing was sent", x.received(0, 9), GarbleWords.NO_SUCH);
        Due.send(x, "go");
        due.is("no sent word", x.received(1, 0), GarbleWords.NO_SUCH);
        due.is("no sent word", x.received(-1, 6), GarbleWords.NO_SUCH);
        due.is("what -1", x.received(0, -1), GarbleWords.BAD_VALUE);
        due.is("what 6", x.received(0, 6), GarbleWords.BAD_VALUE);
    }

    private static void promise13CodeWords() {
        GarbleWords x = new GarbleWords();
        Due.enter(x, "go");
        Due.enter(x, "so/no/to");
        x.set(GarbleWords.COST, 7);
        Due.send(x, "so/no/to/go/ghijklmnop");
        received(x, 0, 0, 1, NONE, 3, 1, 7);
        received(x, 1, 0, 0, NONE, 1, 1, 7);
        received(x, 2, 2, NONE, NONE, 1, 1, 14);
        Due.garble(x, 0, "aaaa");
        received(x, 0, 0, 0, NONE, 3, 0, 7);
        Due.garble(x, 1, "abbb");
        received(x, 1, 0, 1, NONE, 1, 0, 7);
        x.set(GarbleWords.COST, 50);
        due.is("cost as it was sent", x.received(2, 5), 14);
    }

    private static void promise13Mending() {
        GarbleWords x = new GarbleWords();
        Due.enter(x, "go");
        Due.enter(x, "so");
        Due.send(x, "go/so");
        String[] mended = {"caaa", "acaa", "aaca", "aaac"};
        for (int place = 0; place < 4; place++) {
            Due.garble(x, 0, mended[place]);
            received(x, 0, 1, 0, place, 1, 1, 10);
        }
        Due.garble(x, 0, "aaza");
        received(x, 0, 1, 0, 2, 1, 1, 10);
        Due.garble(x, 0, "azza");
        received(x, 0, 3, NONE, NONE, 1, 0, 10);
        Due.garble(x, 0, "accb");
        received(x, 0, 3, NONE, NONE, 1, 0, 10);
        Due.garble(x, 0, "abba");
        received(x, 0, 1, 1, 3, 1, 0, 10);
        x.set(GarbleWords.APART, 1);
        x.recode(1, 6);
        Due.garble(x, 0, "aaca");
        received(x, 0, 3, NONE, NONE, 1, 0, 10);
        Due.garble(x, 0, "aaba");
        received(x, 0, 0, 1, NONE, 1, 0, 10);
        Due.garble(x, 0, "aaaa");
        received(x, 0, 0, 0, NONE, 1, 1, 10);
        Due.garble(x, 0, "caba");
        received(x, 0, 1, 1, 0, 1, 0, 10);
    }

    private static void promise13PlainWords() {
        GarbleWords x = new GarbleWords();
        Due.enter(x, "zzzz");
        Due.send(x, "g/go/zzz/ghijklmnopqr");
        for (int word = 0; word < 4; word++) {
            received(x, word, 2, NONE, NONE, 1, 1, word == 3 ? 20 : 10);
        }
        Due.garble(x, 0, "hg");
        received(x, 0, 3, NONE, NONE, 1, 0);
        Due.garble(x, 0, "hh");
        received(x, 0, 2, NONE, NONE, 1, 0);
        Due.garble(x, 0, "aa");
        received(x, 0, 3, NONE, NONE, 1, 0);
        Due.garble(x, 1, "ogo");
        received(x, 1, 2, NONE, NONE, 1, 0);
        Due.garble(x, 1, "aao");
        received(x, 1, 3, NONE, NONE, 1, 0);
        Due.garble(x, 1, "goa");
        received(x, 1, 3, NONE, NONE, 1, 0);
        Due.garble(x, 1, "aaa");
        received(x, 1, 3, NONE, NONE, 1, 0);
        Due.garble(x, 3, "aaaa");
        received(x, 3, 3, NONE, NONE, 1, 0);
        Due.garble(x, 2, "aazx");
        received(x, 2, 3, NONE, NONE, 1, 0);
        Due.garble(x, 2, "aaza");
        received(x, 2, 1, 0, 2, 1, 0);
        Due.garble(x, 2, "aaaa");
        received(x, 2, 0, 0, NONE, 1, 0);
    }

    private static void promise13AllOfOneLetter() {
        GarbleWords x = new GarbleWords();
        Due.send(x, "ggg/zzzzz");
        due.word(x, 0, "gggg");
        received(x, 0, 2, NONE, NONE, 1, 1, 10);
        Due.garble(x, 0, "fggg");
        received(x, 0, 3, NONE, NONE, 1, 0, 10);
        Due.garble(x, 1, "aaaaa");
        received(x, 1, 3, NONE, NONE, 1, 0, 10);
    }

    private static void promise13AnotherText() {
        GarbleWords x = new GarbleWords();
        Due.enter(x, "zzz");
        Due.enter(x, "zzz/go");
        Due.send(x, "zzz/zzz/go");
        due.word(x, 0, "aaaa");
        Due.garble(x, 0, "zzzx");
        received(x, 0, 2, NONE, NONE, 1, 1);
        Due.garble(x, 1, "zzzx");
        received(x, 1, 2, NONE, NONE, 2, 0);
        Due.garble(x, 1, "aaaa");
        received(x, 1, 0, 0, NONE, 2, 0);
        Due.garble(x, 0, "abbb");
        received(x, 0, 0, 1, NONE, 1, 0);
        x.drop(0);
        x.drop(0);
        Due.send(x, "zzz");
        Due.enter(x, "zzz");
        Due.garble(x, 0, "gaaa");
        received(x, 0, 1, 0, 0, 1, 1);
    }

    private static void promise13ByTheBookOfNow() {
        GarbleWords x = new GarbleWords();
        Due.enter(x, "go");
        Due.enter(x, "so");
        Due.send(x, "so/go");
        x.drop(0);
        received(x, 0, 0, 0, NONE, 1, 1, 10);
        received(x, 1, 3, NONE, NONE, 1, 0, 10);
        Due.enter(x, "no");
        received(x, 1, 0, 1, NONE, 1, 0, 10);
        x.recode(1, 1295);
        received(x, 1, 3, NONE, NONE, 1, 0, 10);
        x.recode(0, 1);
        received(x, 1, 1, 0, 3, 1, 0, 10);
        received(x, 0, 3, NONE, NONE, 1, 0, 10);
    }

    private static void promise14ReceivedSo() {
        GarbleWords x = new GarbleWords();
        for (int how = 0; how <= 4; how++) {
            due.is("nothing was sent", x.receivedSo(how), 0);
        }
        due.is("how -1", x.receivedSo(-1), GarbleWords.BAD_VALUE);
        due.is("how 5", x.receivedSo(5), GarbleWords.BAD_VALUE);
        Due.enter(x, "go");
        Due.enter(x, "so");
        Due.send(x, "go/so/go/g/h/i/j/so/go");
        Due.garble(x, 1, "abba"); // mended
        Due.garble(x, 2, "abbb"); // well, but another text
        Due.garble(x, 4, "gg"); // well, but another text
        Due.garble(x, 5, "zg"); // wrong
        Due.garble(x, 7, "aaac"); // mended, but as another text
        Due.garble(x, 8, "accc"); // wrong
        int[] want = {2, 2, 3, 2, 3};
        for (int how = 0; how <= 4; how++) {
            due.is("receivedSo(" + how + ")", x.receivedSo(how), want[how]);
        }
    }
}
