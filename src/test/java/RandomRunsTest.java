import java.util.Random;

/** Long runs of mixed calls, right and wrong ones, against the plain model; the same ones each time. */
public final class RandomRunsTest {
    private static final int RUNS = 300, CALLS = 512;
    private static final String[] WORDS = {"g", "h", "zzz", "go", "ghi", "so", "ghijklmno", "zyxwvutsrqpo", "nnnn"};
    private static final int[] ODD = {-1, -2, Integer.MIN_VALUE, Integer.MAX_VALUE, 16, 1296, 100, 65536, -1000};

    private static final Due due = new Due();

    private final Random random;
    private final int run;
    private final GarbleWords x = new GarbleWords();
    private final PlainModel model = new PlainModel();
    private final int words;
    private int call = 0;

    private RandomRunsTest(int run) {
        this.run = run;
        random = new Random(run);
        words = 2 + random.nextInt(WORDS.length - 1);
    }

    public static void main(String[] args) {
        for (int run = 0; run < RUNS; run++) {
            RandomRunsTest test = new RandomRunsTest(run);
            while (test.call < CALLS) {
                test.anyCall();
            }
        }
        due.end();
    }

    private void is(String name, int got, int want) {
        call++;
        due.is("run " + run + ", call " + call + ": " + name, got, want);
    }

    /** Mostly a number that fits, sometimes one just beyond, sometimes an odd one. */
    private int number(int below) {
        if (random.nextInt(60) == 0) {
            return ODD[random.nextInt(ODD.length)];
        }
        return random.nextInt(40) == 0 ? below : random.nextInt(Math.max(1, below));
    }

    private int sentWord() {
        return number(Math.max(1, model.count(2)));
    }

    private int anEntry() {
        return number(Math.max(1, model.count(0)));
    }

    private void put(long characters) {
        is("put(" + characters + ")", x.put(characters), model.put(characters));
    }

    private void type(int most) {
        StringBuilder text = new StringBuilder();
        int count = 1 + random.nextInt(most);
        for (int i = 0; i < count; i++) {
            text.append(i == 0 ? "" : "/").append(WORDS[random.nextInt(words)]);
        }
        if (random.nextInt(25) == 0) {
            text.insert(random.nextInt(text.length() + 1), (char) (33 + random.nextInt(94)));
        }
        for (int i = 0; i < text.length(); i += 8) {
            put(Due.packed(text.substring(i, Math.min(text.length(), i + 8))));
        }
    }

    private void anyCall() {
        switch (random.nextInt(10)) {
            case 0, 1, 2: change(); break;
            case 3: padCall(); break;
            case 4: undoCall(); break;
            default: question(); break;
        }
    }

    private void change() {
        switch (random.nextInt(14)) {
            case 0: {
                int setting = number(3), value = setting == 0 ? number(13) : number(setting == 1 ? 16 : 5);
                is("set(" + setting + ", " + value + ")", x.set(setting, value), model.set(setting, value));
                break;
            }
            case 1, 2, 3, 4:
                is("wipe()", x.wipe(), model.wipe());
                type(random.nextInt(20) == 0 ? 4 : 3);
                is("enter()", x.enter(), model.enter());
                break;
            case 5, 6, 7:
                is("wipe()", x.wipe(), model.wipe());
                type(random.nextInt(20) == 0 ? 14 : 9);
                is("costOf()", x.costOf(), model.costOf());
                is("send()", x.send(), model.send());
                break;
            case 8: is("sendAgain()", x.sendAgain(), model.sendAgain()); break;
            case 9: {
                int entry = anEntry(), code = number(random.nextBoolean() ? 1296 : 8);
                is("recode(" + entry + ", " + code + ")", x.recode(entry, code), model.recode(entry, code));
                break;
            }
            case 10: {
                int entry = anEntry();
                is("drop(" + entry + ")", x.drop(entry), model.drop(entry));
                break;
            }
            default: garble(); break;
        }
    }

    private void garbleInto(String text) {
        int word = sentWord();
        for (int place = 0; place < text.length(); place++) {
            int letter = text.charAt(place) - 'a';
            is("garble(" + word + ", " + place + ", " + letter + ")", x.garble(word, place, letter),
                model.garble(word, place, letter));
        }
        for (int what = 0; what < 6; what++) {
            is("received(" + word + ", " + what + ")", x.received(word, what), model.received(word, what));
        }
        is("receivedSo(4)", x.receivedSo(4), model.receivedSo(4));
    }

    private void garble() {
        if (random.nextInt(4) == 0) {
            String[] texts = {"aaaa", "abbb", "accc", "aaab", "abba", "zzzx", "ghij", "goo", "gg", "sog", "hh"};
            garbleInto(texts[random.nextInt(texts.length)]);
            return;
        }
        int word = sentWord(), times = 1 + random.nextInt(4);
        for (int i = 0; i < times; i++) {
            int place = number(random.nextBoolean() ? 4 : 5), letter = number(random.nextBoolean() ? 26 : 3);
            is("garble(" + word + ", " + place + ", " + letter + ")", x.garble(word, place, letter),
                model.garble(word, place, letter));
            is("received(" + word + ", 0)", x.received(word, 0), model.received(word, 0));
        }
    }

    private void padCall() {
        switch (random.nextInt(6)) {
            case 0: put(random.nextLong()); break;
            case 1: put(random.nextLong() & 0x7f7f7f7f7f7f7f7fL >>> 8 * random.nextInt(8)); break;
            case 2: is("wipe()", x.wipe(), model.wipe()); break;
            case 3: is("fault()", x.fault(), model.fault()); break;
            default: type(6); break;
        }
    }

    private void undoCall() {
        switch (random.nextInt(6)) {
            case 0: {
                int slot = number(2);
                is("save(" + slot + ")", x.save(slot), model.save(slot));
                break;
            }
            case 1: {
                int slot = number(2);
                is("restore(" + slot + ")", x.restore(slot), model.restore(slot));
                break;
            }
            default: is("undo()", x.undo(), model.undo()); break;
        }
    }

    private void question() {
        int what = number(6);
        int word = sentWord(), entry = anEntry(), place = number(13);
        switch (random.nextInt(12)) {
            case 0, 1:
                is("entry(" + entry + ", " + what + ")", x.entry(entry, what), model.entry(entry, what));
                break;
            case 2:
                is("phraseSign(" + entry + ", " + place + ")", x.phraseSign(entry, place),
                    model.phraseSign(entry, place));
                break;
            case 3, 4: is("count(" + place + ")", x.count(place), model.count(place)); break;
            case 5: is("letter(" + word + ", " + place + ")", x.letter(word, place), model.letter(word, place)); break;
            case 6, 7:
                is("received(" + word + ", " + what + ")", x.received(word, what), model.received(word, what));
                break;
            case 8: is("receivedSo(" + what + ")", x.receivedSo(what), model.receivedSo(what)); break;
            case 9: is("saves(" + entry + ")", x.saves(entry), model.saves(entry)); break;
            case 10: is("bestPhrase(" + what + ")", x.bestPhrase(what), model.bestPhrase(what)); break;
            default: rarely(); break;
        }
    }

    private void rarely() {
        if (random.nextInt(8) == 0) {
            is("left()", x.left(), model.left());
        } else {
            int code = number(1296), other = number(1296);
            is("distance(" + code + ", " + other + ")", x.distance(code, other), model.distance(code, other));
        }
    }
}
