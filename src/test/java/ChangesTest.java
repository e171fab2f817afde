/** Promises 1 to 8: a new object, and the changes. */
public final class ChangesTest {
    private static final Due due = new Due();
    private static final String LONGEST = "ghijklmnopqr";

    public static void main(String[] args) {
        promise1NewObject();
        promise2Set();
        promise3Enter();
        promise3EnterErrors();
        promise4Recode();
        promise5Drop();
        promise6Send();
        promise6SendWays();
        promise6SendErrors();
        promise7SendAgain();
        promise8Garble();
        due.end();
    }

    private static void promise1NewObject() {
        GarbleWords x = new GarbleWords();
        int[] counts = {0, 0, 0, 0, 0, GarbleWords.NONE, 10, 8, 3, 0, 0, 0};
        for (int what = 0; what < counts.length; what++) {
            due.is("new: count(" + what + ")", x.count(what), counts[what]);
        }
        due.is("new: entry", x.entry(0, 0), GarbleWords.NO_SUCH);
        due.is("new: letter", x.letter(0, 0), GarbleWords.NO_SUCH);
        due.is("new: received", x.received(0, 0), GarbleWords.NO_SUCH);
        due.is("new: sendAgain", x.sendAgain(), GarbleWords.NOT_POSSIBLE);
        due.is("new: undo", x.undo(), GarbleWords.NOT_POSSIBLE);
        due.is("new: restore", x.restore(1), GarbleWords.NOT_POSSIBLE);
        due.is("new: wipe", x.wipe(), 0);
        GarbleWords other = new GarbleWords();
        x.set(GarbleWords.COST, 50);
        Due.enter(x, "go");
        due.is("objects share nothing", other.count(0) + other.count(6), 10);
    }

    private static void promise2Set() {
        GarbleWords x = new GarbleWords();
        int[][] ranges = {{1, 99, 10}, {2, 15, 8}, {1, 4, 3}};
        for (int setting = 0; setting < 3; setting++) {
            int lowest = ranges[setting][0], highest = ranges[setting][1];
            due.is("set below", x.set(setting, lowest - 1), GarbleWords.BAD_VALUE);
            due.is("set above", x.set(setting, highest + 1), GarbleWords.BAD_VALUE);
            due.is("set lowest", x.set(setting, lowest), ranges[setting][2]);
            due.is("set highest", x.set(setting, highest), lowest);
            due.is("set the same", x.set(setting, highest), highest);
            due.is("count of it", x.count(6 + setting), highest);
        }
        due.is("changes of set", x.count(11), 6);
        due.is("set(-1, 1)", x.set(-1, 1), GarbleWords.BAD_VALUE);
        due.is("set(-1, 0)", x.set(-1, 0), GarbleWords.BAD_VALUE);
        due.is("set(3, 1)", x.set(3, 1), GarbleWords.BAD_VALUE);
        due.is("set(3, 0)", x.set(3, 0), GarbleWords.BAD_VALUE);
        due.is("set(MIN, MAX)", x.set(Integer.MIN_VALUE, Integer.MAX_VALUE), GarbleWords.BAD_VALUE);
        x = new GarbleWords();
        x.set(GarbleWords.APART, 1);
        Due.enter(x, "g");
        Due.enter(x, "h");
        x.set(GarbleWords.APART, 4);
        due.is("entries stay", x.count(0), 2);
        due.is("their distance stays", x.count(5), 1);
        x.set(0, 0);
        due.is("an error is no change", x.count(11), 4);
    }

    private static void promise3Enter() {
        GarbleWords x = new GarbleWords();
        due.is("enter 0", Due.enter(x, "ship"), 0);
        due.is("the pad is empty then", x.count(10), 0);
        due.is("enter 1", Due.enter(x, "ship/soon/now"), 43);
        due.is("enter 2", Due.enter(x, LONGEST + "/" + LONGEST + "/" + LONGEST), 86);
        due.is("enter 3", Due.enter(x, "z"), 129);
        due.is("enter 4", Due.enter(x, "zz"), 172);
        due.is("enter 5", Due.enter(x, "zz/z"), 215);
        // Behind b the letters have to be unlike one another, since aaa, bbb .. fff stand behind a: babc.
        due.is("enter 6", Due.enter(x, "z/zz"), 216 + 6 + 2);
        due.is("letters of the longest", x.entry(2, 2), 36);
        x.drop(1);
        due.is("a code word that is free again", Due.enter(x, "so"), 43);
        due.is("it comes last", x.entry(6, 0), 43);
        int[] apart = {1, 7, 43, 259};
        for (int distance = 1; distance <= 4; distance++) {
            GarbleWords y = new GarbleWords();
            y.set(GarbleWords.APART, distance);
            due.is("first", Due.enter(y, "so"), 0);
            due.is("second, apart " + distance, Due.enter(y, "no"), apart[distance - 1]);
            due.is("changes", y.count(11), 3);
        }
    }

    private static void promise3EnterErrors() {
        GarbleWords x = new GarbleWords();
        for (String text : new String[] {"", "/", "go/", "a", "go//so", "g h", "ghijklmnopqrs", "g/h/i/j"}) {
            due.is("enter " + text, Due.enter(x, text), GarbleWords.BAD_TEXT);
        }
        due.is("the pad stays", x.count(10), 7);
        Due.enter(x, "go");
        due.is("the phrase again", Due.enter(x, "go"), GarbleWords.NOT_POSSIBLE);
        due.is("the pad stays", x.wipe(), 2);
        due.is("errors are no changes", x.count(11), 1);
        x.set(GarbleWords.APART, 4);
        for (char c = 'g'; c <= 'k'; c++) {
            due.is("enter " + c, Due.enter(x, String.valueOf(c)), 259L * (c - 'g' + 1));
        }
        due.is("no code word is left", Due.enter(x, "z"), GarbleWords.NOT_POSSIBLE);
        x.set(GarbleWords.APART, 3);
        // At most one letter like those of aaaa, bbbb and so on: abcd.
        due.is("but if they may be nearer", x.enter(), 36 + 2 * 6 + 3);
        GarbleWords full = Due.fullBook();
        due.is("16 entries", full.count(0), 16);
        due.is("a 17th", Due.enter(full, "zz"), GarbleWords.TOO_MANY);
        due.is("TOO_MANY ahead of NOT_POSSIBLE", Due.enter(full, "g"), GarbleWords.TOO_MANY);
        due.is("BAD_TEXT ahead of TOO_MANY", Due.enter(full, "g/"), GarbleWords.BAD_TEXT);
        full.drop(3);
        due.is("room again", Due.enter(full, "zz"), 129);
    }

    private static void promise4Recode() {
        GarbleWords x = new GarbleWords();
        Due.enter(x, "go");
        Due.enter(x, "so");
        due.is("no entry", x.recode(2, 5000), GarbleWords.NO_SUCH);
        due.is("no entry", x.recode(-1, 1), GarbleWords.NO_SUCH);
        due.is("code -1", x.recode(0, -1), GarbleWords.BAD_VALUE);
        due.is("code 1296", x.recode(0, 1296), GarbleWords.BAD_VALUE);
        due.is("the other's code", x.recode(0, 43), GarbleWords.NOT_POSSIBLE);
        due.is("distance 2", x.recode(0, 7 + 36 + 1), GarbleWords.NOT_POSSIBLE);
        due.is("code as it was", x.entry(0, 0), 0);
        due.is("no change", x.count(11), 2);
        due.is("distance 4", x.recode(0, 1295), 0);
        due.is("its own again", x.recode(0, 1295), 1295);
        due.is("distance 3", x.recode(0, 5 * 36 + 5 * 6 + 5), 1295);
        due.is("code 0", x.recode(1, 0), 43);
        due.is("changes", x.count(11), 6);
        due.is("entry 0", x.entry(0, 0), 215);
        due.is("entry 1", x.entry(1, 0), 0);
        x.set(GarbleWords.APART, 4);
        due.is("its own, now too near", x.recode(0, 215), GarbleWords.NOT_POSSIBLE);
        x.set(GarbleWords.APART, 1);
        due.is("never the same", x.recode(0, 0), GarbleWords.NOT_POSSIBLE);
        due.is("but nearly", x.recode(0, 1), 215);
    }

    private static void promise5Drop() {
        GarbleWords x = Due.fullBook();
        int[] codes = new int[16];
        for (int entry = 0; entry < 16; entry++) {
            codes[entry] = x.entry(entry, 0);
        }
        due.is("no entry", x.drop(16), GarbleWords.NO_SUCH);
        due.is("no entry", x.drop(-1), GarbleWords.NO_SUCH);
        due.is("drop the first", x.drop(0), 15);
        due.is("drop the last", x.drop(14), 14);
        due.is("drop one between", x.drop(2), 13);
        due.is("no such any more", x.drop(13), GarbleWords.NO_SUCH);
        for (int entry = 0; entry < 13; entry++) {
            int was = entry < 2 ? entry + 1 : entry + 2;
            due.is("moved up: code", x.entry(entry, 0), codes[was]);
            due.is("moved up: phrase", x.phraseSign(entry, 0), 'g' + was);
        }
        due.is("entries", x.count(0), 13);
        for (int left = 12; left >= 0; left--) {
            due.is("drop", x.drop(0), left);
        }
        due.is("empty", x.drop(0), GarbleWords.NO_SUCH);
        for (String phrase : new String[] {"g", "gg/hh/ii", "z/yy", "so/no/to", "x"}) {
            Due.enter(x, phrase);
        }
        x.drop(0);
        String moved = "gg/hh/iiz/yyso/no/tox";
        int sign = 0;
        for (int entry = 0; entry < 4; entry++) {
            for (int place = 0; x.phraseSign(entry, place) != GarbleWords.NO_SUCH; place++) {
                due.is("all words move up", x.phraseSign(entry, place), moved.charAt(sign++));
            }
        }
        due.is("nothing is lost", sign, moved.length());
    }

    private static void promise6Send() {
        GarbleWords x = new GarbleWords();
        // g and z are 0 and 19: the check letter of zzz is 57 over by 20: 17, x.
        due.is("three plain words", Due.send(x, "zzz/g/ghijklmno"), 40);
        due.word(x, 0, "zzzx");
        due.word(x, 1, "gg");
        due.word(x, 2, "ghijklmnow");
        due.is("the pad is empty then", x.count(10), 0);
        due.is("words", x.count(1), 3);
        Due.enter(x, "zzz/g");
        due.is("code word for two", Due.send(x, "g/zzz/g/zzz"), 30);
        due.word(x, 0, "gg");
        due.word(x, 1, "aaaa");
        due.word(x, 2, "zzzx");
        due.is("sent words", x.count(2), 3);
        due.is("changes", x.count(11), 3);
        x.recode(0, 1295);
        due.word(x, 1, "aaaa");
        x.recode(0, 1 * 216 + 2 * 36 + 3 * 6 + 4);
        x.sendAgain();
        due.word(x, 1, "bcde");
        due.is("twelve words", Due.send(x, "g/h/i/j/k/l/m/n/o/p/q/r"), 120);
        due.is("sent words", x.count(2), 12);
        due.word(x, 11, "rr");
        due.is("twelve letters", Due.send(x, "ghijklmnopqr"), 20);
        due.word(x, 0, "ghijklmnopqrm");
        x.set(GarbleWords.COST, 99);
        x.set(GarbleWords.WIDE, 2);
        due.is("dearest word", Due.send(x, LONGEST), 99 * 6);
        due.is("two of them", Due.send(x, LONGEST + "/" + LONGEST), 2 * 99 * 6);
        due.word(x, 0, "ghijklmnopqrm");
        due.word(x, 1, "ghijklmnopqrm");
        x.set(GarbleWords.WIDE, 11);
        due.is("twelve letters by 11", Due.send(x, LONGEST), 198);
        x.set(GarbleWords.WIDE, 12);
        due.is("twelve letters by 12", Due.send(x, LONGEST), 99);
    }

    private static void promise6SendWays() {
        GarbleWords x = new GarbleWords();
        Due.enter(x, "go");
        Due.send(x, "go");
        due.word(x, 0, "aaaa");
        due.is("as dear both ways: the code word", x.received(0, 0), 0);
        Due.enter(x, "go/go");
        Due.send(x, "go/go/go");
        due.is("the longest first", x.received(0, 3), 2);
        due.is("then the rest", x.received(1, 3), 1);
        Due.enter(x, "no/so/to");
        Due.enter(x, "no/so");
        Due.enter(x, "to/no");
        // Two sent words, both ways: three and two, or two and three.
        Due.enter(x, "to/no/so");
        Due.send(x, "no/so/to/no/so");
        due.is("three ahead of two", x.received(0, 3), 3);
        due.is("two behind three", x.received(1, 3), 2);
        Due.send(x, "no/so/to/no");
        due.is("two sent words, three ahead of two", x.count(2) * 10 + x.received(0, 3), 23);
        // Equally dear with 2 + 2 + 2 and 1 + 3 + 2, the first word decides; fewest words decide before it.
        GarbleWords y = new GarbleWords();
        Due.enter(y, "m/n/o");
        Due.enter(y, "n/o");
        Due.enter(y, "n/o/p");
        Due.send(y, "m/n/o/p/n/o");
        due.is("3, 1, 2", y.received(0, 3) * 100 + y.received(1, 3) * 10 + y.received(2, 3), 312);
        Due.enter(y, "m/n");
        Due.enter(y, "o/p/n");
        Due.enter(y, "p/n/o");
        Due.send(y, "m/n/o/p/n/o");
        due.is("3, 3", y.count(2) * 100 + y.received(0, 3) * 10 + y.received(1, 3), 233);
        // 20 + 10 with two sent words, or 10 + 10 + 10 with three, of which the first one is longer.
        GarbleWords w = new GarbleWords();
        Due.enter(w, "ghijklmnop/h");
        Due.enter(w, "h/i/j");
        due.is("as dear both ways", Due.send(w, "ghijklmnop/h/i/j"), 30);
        due.is("the fewest ahead of the longest first", w.count(2) * 10 + w.received(0, 3), 21);
        GarbleWords z = new GarbleWords();
        z.set(GarbleWords.WIDE, 2);
        Due.enter(z, "g/hhhh/i");
        Due.enter(z, "g");
        Due.enter(z, "i/jjjjjjjj");
        // g/hhhh/i + plain: 10 + 40; g + hhhh + i/jjjjjjjj: 10 + 20 + 10.
        due.is("the cheapest, though with more words", Due.send(z, "g/hhhh/i/jjjjjjjj"), 40);
        due.is("three sent words", z.count(2), 3);
    }

    private static void promise6SendErrors() {
        GarbleWords x = new GarbleWords();
        Due.send(x, "go/so");
        for (String text : new String[] {"", "go/", "/go", "af", "g/h/i/j/k/l/m/n/o/p/q/r/s", "ghijklmnopqrs", "GO"}) {
            due.is("send " + text, Due.send(x, text), GarbleWords.BAD_TEXT);
            due.is("the pad stays", x.count(10), text.length());
        }
        due.is("what was sent stays", x.count(2), 2);
        due.is("no change", x.count(11), 1);
    }

    private static void promise7SendAgain() {
        GarbleWords x = new GarbleWords();
        due.is("no message", x.sendAgain(), GarbleWords.NOT_POSSIBLE);
        due.is("no change", x.count(11), 0);
        Due.send(x, "go/so");
        Due.type(x, "no");
        Due.garble(x, 0, "zz");
        due.is("garbled", x.count(9), 2);
        due.is("again", x.sendAgain(), 20);
        due.is("without garbles", x.count(9), 0);
        due.is("the pad stays", x.wipe(), 2);
        Due.enter(x, "go/so");
        due.is("not yet by the new book", x.count(2), 2);
        due.is("nor for its cost", x.count(3), 20);
        due.is("by the book of now", x.sendAgain(), 10);
        due.is("one sent word", x.count(2), 1);
        due.is("the message", x.count(1), 2);
        x.set(GarbleWords.COST, 7);
        due.is("cost as it was sent", x.count(3), 10);
        due.is("cost of now", x.sendAgain(), 7);
        x.drop(0);
        due.is("without the entry", x.sendAgain(), 14);
        due.word(x, 1, "sog");
    }

    private static void promise8Garble() {
        GarbleWords x = new GarbleWords();
        due.is("no sent word", x.garble(0, 0, 99), GarbleWords.NO_SUCH);
        Due.send(x, "go/zzz");
        due.is("no sent word", x.garble(2, 0, 0), GarbleWords.NO_SUCH);
        due.is("no sent word", x.garble(-1, 0, 0), GarbleWords.NO_SUCH);
        due.is("no place", x.garble(0, 3, 26), GarbleWords.NO_SUCH);
        due.is("no place", x.garble(0, -1, 0), GarbleWords.NO_SUCH);
        due.is("letter -1", x.garble(0, 0, -1), GarbleWords.BAD_VALUE);
        due.is("letter 26", x.garble(0, 0, 26), GarbleWords.BAD_VALUE);
        due.is("no change", x.count(11), 1);
        due.is("g into a", x.garble(0, 0, 0), 6);
        due.is("a into z", x.garble(0, 0, 25), 0);
        due.is("z into z", x.garble(0, 0, 25), 25);
        due.is("the check letter", x.garble(1, 3, 1), 23);
        due.is("changes", x.count(11), 5);
        due.word(x, 0, "zoo");
        due.word(x, 1, "zzzb");
        due.is("back again", x.garble(0, 0, 6), 25);
        due.is("one garbled letter", x.count(9), 1);
    }
}
