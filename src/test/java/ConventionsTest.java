import java.util.function.ToIntFunction;

/** The conventions: the order of errors, calls that change nothing, NONE, and numbers from 0. */
public final class ConventionsTest {
    private static final int NO_SUCH = GarbleWords.NO_SUCH, BAD_VALUE = GarbleWords.BAD_VALUE;
    private static final int BAD_TEXT = GarbleWords.BAD_TEXT, TOO_MANY = GarbleWords.TOO_MANY;
    private static final int NOT_POSSIBLE = GarbleWords.NOT_POSSIBLE, NONE = GarbleWords.NONE;
    private static final int LEAST = Integer.MIN_VALUE, GREATEST = Integer.MAX_VALUE;

    private static final Due due = new Due();

    public static void main(String[] args) {
        errorCodes();
        firstErrorOfEnter();
        firstErrorByNumbers();
        refusedChanges();
        refusedEntering();
        refusedSending();
        refusedQuestions();
        refusedPut();
        refusedUndo();
        questionsChangeNothing();
        noneIsNoError();
        noneBehindErrors();
        numberedFromZero();
        due.end();
    }

    /** A book, a message with garbles, a saved state, more changes than are kept, and a pad. */
    private static GarbleWords busy(String pad) {
        GarbleWords x = Due.book("go", "so/no", "zz", "mm/kk/ll");
        x.save(0);
        Due.send(x, "go/so/no/zzz/ghijklmnopqr");
        x.garble(0, 0, 25);
        x.garble(2, 0, 0);
        x.drop(2);
        x.set(GarbleWords.COST, 20);
        Due.type(x, pad);
        return x;
    }

    private static GarbleWords made(String which) {
        switch (which) {
            case "new": return new GarbleWords();
            case "full": {
                GarbleWords x = Due.fullBook();
                Due.send(x, "g/zz");
                return x;
            }
            case "no code word": {
                GarbleWords x = Due.book("g", "h", "i", "j", "k", "l");
                x.set(GarbleWords.APART, 4);
                return x;
            }
            default: return busy("");
        }
    }

    /** All that can be told of two objects is alike: also their pads, histories and slots. */
    private static void alike(String call, GarbleWords x, GarbleWords y) {
        due.same(call + ": state", Due.state(x), Due.state(y));
        due.is(call + ": pad", x.count(10), y.count(10));
        due.is(call + ": changes", x.count(11), y.count(11));
        due.is(call + ": fault", x.fault(), y.fault());
        due.is(call + ": costOf", x.costOf(), y.costOf());
        due.is(call + ": send", x.send(), y.send());
        due.same(call + ": sent", Due.state(x), Due.state(y));
        for (int undone = 0; undone <= 6; undone++) {
            due.is(call + ": undo", x.undo(), y.undo());
            due.same(call + ": undone", Due.state(x), Due.state(y));
        }
        for (int slot = 0; slot < 2; slot++) {
            due.is(call + ": restore", x.restore(slot), y.restore(slot));
            due.same(call + ": restored", Due.state(x), Due.state(y));
        }
    }

    /** Makes the same object twice, and one call more with one of them, which leaves them alike. */
    private static void unchanged(String which, String pad, String call, ToIntFunction<GarbleWords> calling, int want) {
        GarbleWords x = made(which), y = made(which);
        Due.type(x, pad);
        Due.type(y, pad);
        due.is(which + ", " + call, calling.applyAsInt(x), want);
        alike(which + ", " + call, x, y);
    }

    private static void refused(String call, ToIntFunction<GarbleWords> calling, int want) {
        unchanged("busy", "go/so", call, calling, want);
    }

    private static void errorCodes() {
        due.term("A method that fails returns one of the error codes NO_SUCH (-1), BAD_VALUE (-2), BAD_TEXT (-3),"
            + " TOO_MANY (-4) and NOT_POSSIBLE (-5)");
        GarbleWords x = Due.fullBook();
        due.is("NO_SUCH", x.drop(16), -1);
        due.is("BAD_VALUE", x.set(0, 0), -2);
        due.is("BAD_TEXT", x.enter(), -3);
        due.is("TOO_MANY", Due.enter(x, "zz"), -4);
        due.is("NOT_POSSIBLE", x.sendAgain(), -5);
    }

    private static void firstErrorOfEnter() {
        due.term("it names its errors in the order in which they are checked, and the first one that applies is"
            + " returned.");
        GarbleWords full = Due.fullBook();
        due.is("fault, and full", Due.enter(full, "g/"), BAD_TEXT);
        due.is("four words, and full", Due.enter(full, "g/g/g/g"), BAD_TEXT);
        due.is("full, and the phrase", Due.enter(full, "g"), TOO_MANY);
        full.set(GarbleWords.APART, 4);
        due.is("full, and no code word", Due.enter(full, "zz"), TOO_MANY);
        due.is("all of them", Due.enter(full, ""), BAD_TEXT);
        GarbleWords x = made("no code word");
        due.is("a fault, and no code word", Due.enter(x, "g/"), BAD_TEXT);
        due.is("the phrase, and no code word", Due.enter(x, "g"), NOT_POSSIBLE);
    }

    private static void firstErrorByNumbers() {
        due.term("and the first one that applies is returned.");
        GarbleWords x = Due.book("go", "so");
        due.is("no entry, and out of range", x.recode(2, 1296), NO_SUCH);
        due.is("no entry, and too near", x.recode(-1, 0), NO_SUCH);
        due.is("no sent word, and out of range", x.garble(0, 0, 26), NO_SUCH);
        due.is("no entry, and out of range", x.entry(2, 6), NO_SUCH);
        due.is("no sent word, and below 0", x.letter(0, -1), NO_SUCH);
        due.is("no sent word, and out of range", x.received(0, 6), NO_SUCH);
        due.is("no entry, and no message", x.saves(2), NO_SUCH);
        due.is("no slot, and nothing saved", x.restore(2), BAD_VALUE);
        Due.send(x, "go");
        due.is("no place, and out of range", x.garble(0, 4, 26), NO_SUCH);
        Due.type(x, "~".repeat(80));
        due.is("no character, and too many", x.put(0), BAD_VALUE);
        due.is("a bad code, and too many", x.put(127), BAD_VALUE);
    }

    private static void refusedChanges() {
        due.term("A call that returns an error changes nothing.");
        refused("set(-1, 1)", x -> x.set(-1, 1), BAD_VALUE);
        refused("set(3, 1)", x -> x.set(3, 1), BAD_VALUE);
        refused("set(0, 0)", x -> x.set(0, 0), BAD_VALUE);
        refused("set(0, 100)", x -> x.set(0, 100), BAD_VALUE);
        refused("set(1, 1)", x -> x.set(1, 1), BAD_VALUE);
        refused("set(1, 16)", x -> x.set(1, 16), BAD_VALUE);
        refused("set(2, 0)", x -> x.set(2, 0), BAD_VALUE);
        refused("set(2, 5)", x -> x.set(2, 5), BAD_VALUE);
        refused("recode(3, 1)", x -> x.recode(3, 1), NO_SUCH);
        refused("recode(-1, 1)", x -> x.recode(-1, 1), NO_SUCH);
        refused("recode(0, -1)", x -> x.recode(0, -1), BAD_VALUE);
        refused("recode(0, 1296)", x -> x.recode(0, 1296), BAD_VALUE);
        refused("recode(0, 43)", x -> x.recode(0, 43), NOT_POSSIBLE);
        refused("drop(3)", x -> x.drop(3), NO_SUCH);
        refused("drop(-1)", x -> x.drop(-1), NO_SUCH);
        refused("garble(4, 0, 0)", x -> x.garble(4, 0, 0), NO_SUCH);
        refused("garble(0, 4, 0)", x -> x.garble(0, 4, 0), NO_SUCH);
        refused("garble(1, -1, 0)", x -> x.garble(1, -1, 0), NO_SUCH);
        refused("garble(0, 0, -1)", x -> x.garble(0, 0, -1), BAD_VALUE);
        refused("garble(0, 0, 26)", x -> x.garble(0, 0, 26), BAD_VALUE);
    }

    private static void refusedEntering() {
        due.term("A call that returns an error changes nothing.");
        for (String pad : new String[] {"", "go/", "a", "g/h/i/j", "ghijklmnopqrs"}) {
            unchanged("busy", pad, "enter() " + pad, x -> x.enter(), BAD_TEXT);
            unchanged("full", pad, "enter() " + pad, x -> x.enter(), BAD_TEXT);
        }
        unchanged("full", "zz", "enter() zz", x -> x.enter(), TOO_MANY);
        unchanged("busy", "so/no", "enter() so/no", x -> x.enter(), NOT_POSSIBLE);
        unchanged("no code word", "zz", "enter() zz", x -> x.enter(), NOT_POSSIBLE);
    }

    private static void refusedSending() {
        due.term("A call that returns an error changes nothing.");
        for (String pad : new String[] {"", "go/", "/", "a", "ghijklmnopqrs", "g/h/i/j/k/l/m/n/o/p/q/r/s"}) {
            unchanged("busy", pad, "send() " + pad, x -> x.send(), BAD_TEXT);
            unchanged("new", pad, "send() " + pad, x -> x.send(), BAD_TEXT);
            unchanged("busy", pad, "costOf() " + pad, x -> x.costOf(), BAD_TEXT);
        }
        unchanged("new", "go", "sendAgain()", x -> x.sendAgain(), NOT_POSSIBLE);
        unchanged("no code word", "go", "sendAgain()", x -> x.sendAgain(), NOT_POSSIBLE);
    }

    private static void refusedQuestions() {
        due.term("A call that returns an error changes nothing.");
        for (int number : new int[] {-1, LEAST, GREATEST}) {
            refused("entry", x -> x.entry(number, 0), NO_SUCH);
            refused("entry", x -> x.entry(0, number), BAD_VALUE);
            refused("phraseSign", x -> x.phraseSign(number, 0), NO_SUCH);
            refused("phraseSign", x -> x.phraseSign(0, number), NO_SUCH);
            refused("count", x -> x.count(number), BAD_VALUE);
            refused("letter", x -> x.letter(number, 0), NO_SUCH);
            refused("letter", x -> x.letter(0, Math.min(-1, number)), BAD_VALUE);
            refused("received", x -> x.received(number, 0), NO_SUCH);
            refused("received", x -> x.received(0, number), BAD_VALUE);
            refused("receivedSo", x -> x.receivedSo(number), BAD_VALUE);
            refused("saves", x -> x.saves(number), NO_SUCH);
            refused("bestPhrase", x -> x.bestPhrase(number), BAD_VALUE);
            refused("distance", x -> x.distance(number, 0), BAD_VALUE);
            refused("distance", x -> x.distance(0, number), BAD_VALUE);
        }
        unchanged("no code word", "go", "saves(0)", x -> x.saves(0), NOT_POSSIBLE);
    }

    private static void refusedPut() {
        due.term("A call that returns an error changes nothing.");
        refused("put(0)", x -> x.put(0), BAD_VALUE);
        refused("put: a bad code behind a good one", x -> x.put('g' << 8 | 32), BAD_VALUE);
        refused("put: a bad code before a good one", x -> x.put(127 << 8 | 'g'), BAD_VALUE);
        refused("put: a gap", x -> x.put('g' << 16 | 'g'), BAD_VALUE);
        refused("put: all bits", x -> x.put(-1), BAD_VALUE);
        String pad = "gggg/ggg".repeat(9) + "gg/gggg";
        unchanged("busy", pad, "put: one too many", x -> x.put(Due.packed("gg")), TOO_MANY);
        unchanged("busy", pad + "g", "put: into a full pad", x -> x.put('g'), TOO_MANY);
    }

    private static void refusedUndo() {
        due.term("A call that returns an error changes nothing.");
        unchanged("new", "go", "undo()", x -> x.undo(), NOT_POSSIBLE);
        unchanged("new", "go", "restore(0)", x -> x.restore(0), NOT_POSSIBLE);
        refused("restore(1)", x -> x.restore(1), NOT_POSSIBLE);
        for (int slot : new int[] {-1, 2, LEAST, GREATEST}) {
            refused("restore(" + slot + ")", x -> x.restore(slot), BAD_VALUE);
            refused("save(" + slot + ")", x -> x.save(slot), BAD_VALUE);
        }
    }

    private static void questionsChangeNothing() {
        due.term("---- what if; nothing changes.");
        refused("costOf()", x -> x.costOf(), 40);
        refused("saves(0)", x -> x.saves(0), 0);
        refused("saves(1)", x -> x.saves(1), 20);
        refused("bestPhrase(0)", x -> x.bestPhrase(0), 3);
        refused("left()", x -> x.left(), 19);
        refused("distance(0, 1295)", x -> x.distance(0, 1295), 4);
        refused("fault()", x -> x.fault(), NONE);
        refused("entry(0, 5)", x -> x.entry(0, 5), 1);
        refused("phraseSign(1, 2)", x -> x.phraseSign(1, 2), '/');
        refused("count(5)", x -> x.count(5), 3);
        refused("letter(0, 0)", x -> x.letter(0, 0), 25);
        refused("received(0, 0)", x -> x.received(0, 0), 1);
        refused("receivedSo(3)", x -> x.receivedSo(3), 1);
    }

    private static void noneIsNoError() {
        due.term("NONE (-6) is not an error;");
        GarbleWords x = Due.book("go");
        due.is("no other entry", x.entry(0, 3), -6);
        due.is("fewer than two", x.count(5), -6);
        due.is("no such phrase", x.bestPhrase(2), -6);
        Due.send(x, "no");
        due.is("no such place", x.letter(0, 3), -6);
        due.is("a plain word", x.received(0, 1), -6);
        due.is("none is mended", x.received(0, 2), -6);
        x.put('g');
        due.is("no fault", x.fault(), -6);
    }

    private static void noneBehindErrors() {
        due.term("it is returned only if no error applies.");
        GarbleWords x = Due.book("go");
        due.is("no entry", x.entry(1, 3), NO_SUCH);
        due.is("no message, and out of range", x.bestPhrase(3), BAD_VALUE);
        due.is("nothing was sent", x.letter(0, 3), NO_SUCH);
        due.is("nothing was sent", x.received(0, 2), NO_SUCH);
        Due.send(x, "no");
        due.is("no sent word", x.letter(1, 3), NO_SUCH);
        due.is("below 0", x.letter(0, -3), BAD_VALUE);
        due.is("a plain word, and out of range", x.received(0, 6), BAD_VALUE);
    }

    private static void numberedFromZero() {
        due.term("Everything is numbered from 0.");
        GarbleWords x = Due.book("so", "go/no");
        due.is("settings", x.set(0, 10), 10);
        due.phrase(x, 0, "so");
        due.phrase(x, 1, "go/no");
        due.is("signs of a phrase", x.phraseSign(0, 0), 's');
        due.is("a code word", x.entry(0, 0), 0);
        Due.send(x, "so/go/no/to");
        due.is("sent words", x.received(0, 1), 0);
        due.is("entries", x.received(1, 1), 1);
        due.is("places", x.letter(2, 0), 't' - 'a');
        x.garble(0, 0, 25);
        due.is("places that are mended", x.received(0, 2), 0);
        due.is("slots", x.save(0), 2);
        due.is("words of the message", x.bestPhrase(0), 0);
        Due.type(x, "/go");
        due.is("signs of the pad", x.fault(), 0);
    }
}
