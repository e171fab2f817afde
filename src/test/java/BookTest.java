/** Promises 9 to 11: the book, and the counts. */
public final class BookTest {
    private static final Due due = new Due();

    public static void main(String[] args) {
        promise9Entry();
        promise9TimesSent();
        promise10PhraseSign();
        promise11Count();
        promise11CountOfTheLatestMessage();
        due.end();
    }

    private static void promise9Entry() {
        GarbleWords x = new GarbleWords();
        due.is("no entry", x.entry(0, 9), GarbleWords.NO_SUCH);
        Due.enter(x, "ghijklmnopqr/zz/hijklmnop");
        due.is("alone", x.entry(0, 3), GarbleWords.NONE);
        Due.enter(x, "go");
        Due.enter(x, "go/zz");
        due.is("no entry", x.entry(3, 0), GarbleWords.NO_SUCH);
        due.is("no entry", x.entry(-1, 0), GarbleWords.NO_SUCH);
        due.is("what -1", x.entry(0, -1), GarbleWords.BAD_VALUE);
        due.is("what 6", x.entry(0, 6), GarbleWords.BAD_VALUE);
        int[][] want = {{0, 3, 23, 3, 10040, 0}, {43, 1, 2, 3, 10000, 0}, {86, 2, 4, 3, 10010, 0}};
        for (int entry = 0; entry < 3; entry++) {
            for (int what = 0; what < 6; what++) {
                due.is("entry(" + entry + ", " + what + ")", x.entry(entry, what), want[entry][what]);
            }
        }
        x.recode(0, 1295);
        due.is("least distance of 0", x.entry(0, 3), 4);
        due.is("least distance of 1", x.entry(1, 3), 3);
        x.set(GarbleWords.COST, 7);
        x.set(GarbleWords.WIDE, 12);
        due.is("less a code word", x.entry(0, 4), 10014);
        x.set(GarbleWords.WIDE, 2);
        due.is("six, one and five of them", x.entry(0, 4), 10000 + 11 * 7);
        due.is("nothing of this is a change but set", x.count(11), 6);
    }

    private static void promise9TimesSent() {
        GarbleWords x = new GarbleWords();
        Due.enter(x, "go");
        Due.enter(x, "so/go");
        Due.send(x, "go/so/go/go/zz/go");
        due.is("go", x.entry(0, 5), 3);
        due.is("so/go", x.entry(1, 5), 1);
        Due.garble(x, 0, "zzzz");
        due.is("garbles do not matter", x.entry(0, 5), 3);
        Due.enter(x, "zz");
        due.is("sent as a plain word", x.entry(2, 5), 0);
        x.recode(0, 1295);
        due.is("with another code word now", x.entry(0, 5), 3);
        x.drop(0);
        Due.enter(x, "go");
        due.is("entered anew, for the same phrase", x.entry(2, 5), 3);
        x.sendAgain();
        due.is("zz is sent as a code word", x.entry(1, 5), 1);
        Due.send(x, "zz");
        due.is("of the latest message", x.entry(2, 5), 0);
    }

    private static void promise10PhraseSign() {
        GarbleWords x = new GarbleWords();
        due.is("no entry", x.phraseSign(0, 0), GarbleWords.NO_SUCH);
        String[] phrases = {"ghijklmnopqr/stuvwxyz/go", "zz", "go/so", "ghijklmnopqr/ghijklmnopqr/zzzzzzzzzzzz"};
        for (int entry = 0; entry < phrases.length; entry++) {
            String phrase = phrases[entry];
            Due.enter(x, phrase);
            for (int place = 0; place < phrase.length(); place++) {
                due.is("phraseSign " + phrase + " " + place, x.phraseSign(entry, place), phrase.charAt(place));
            }
            due.is("behind it", x.phraseSign(entry, phrase.length()), GarbleWords.NO_SUCH);
            due.is("farther behind it", x.phraseSign(entry, phrase.length() + 1), GarbleWords.NO_SUCH);
            due.is("before it", x.phraseSign(entry, -1), GarbleWords.NO_SUCH);
        }
        due.is("far behind", x.phraseSign(0, Integer.MAX_VALUE), GarbleWords.NO_SUCH);
        due.is("far before", x.phraseSign(0, Integer.MIN_VALUE), GarbleWords.NO_SUCH);
        due.is("no entry", x.phraseSign(4, 0), GarbleWords.NO_SUCH);
        due.is("no entry", x.phraseSign(-1, 0), GarbleWords.NO_SUCH);
    }

    private static void promise11Count() {
        GarbleWords x = new GarbleWords();
        due.is("what -1", x.count(-1), GarbleWords.BAD_VALUE);
        due.is("what 12", x.count(12), GarbleWords.BAD_VALUE);
        Due.enter(x, "go/so");
        due.is("one entry has no distance", x.count(5), GarbleWords.NONE);
        Due.enter(x, "no");
        due.is("two have", x.count(5), 3);
        x.recode(1, 1295);
        due.is("two have", x.count(5), 4);
        x.set(GarbleWords.APART, 1);
        Due.enter(x, "to");
        due.is("the least of three", x.count(5), 1);
        due.is("entries", x.count(0), 3);
        due.is("cost", Due.send(x, "go/so/ghijklmnop/no/no"), 50);
        int[] want = {3, 5, 4, 50, 60, 1, 10, 8, 1, 0, 0, 6};
        for (int what = 0; what < want.length; what++) {
            due.is("count(" + what + ")", x.count(what), want[what]);
        }
        Due.garble(x, 0, "ghaa");
        due.is("garbled letters", x.count(9), 2);
        x.garble(0, 0, 0);
        due.is("one is as it was sent", x.count(9), 1);
        x.garble(1, 10, 0);
        due.is("in a plain word", x.count(9), 2);
        Due.type(x, "ghijklmnopqr");
        due.is("pad", x.count(10), 12);
    }

    private static void promise11CountOfTheLatestMessage() {
        GarbleWords x = new GarbleWords();
        Due.send(x, "ghijklmnop/no");
        x.set(GarbleWords.COST, 3);
        x.set(GarbleWords.WIDE, 4);
        due.is("as it was sent", x.count(3), 30);
        due.is("in plain words, by the settings of now", x.count(4), 12);
        Due.enter(x, "ghijklmnop/no");
        due.is("also with an entry", x.count(4), 12);
        x.sendAgain();
        due.is("as it was sent", x.count(3), 3);
        due.is("in plain words", x.count(4), 12);
        due.is("the cost stays", x.set(GarbleWords.COST, 9) * 100 + x.count(3), 303);
    }
}
