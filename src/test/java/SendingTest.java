/** Sending: the terms, send and sendAgain (promises 6 and 7). */
public final class SendingTest {
    private static final int BAD_TEXT = GarbleWords.BAD_TEXT, NOT_POSSIBLE = GarbleWords.NOT_POSSIBLE;
    private static final int COST = GarbleWords.COST, WIDE = GarbleWords.WIDE;
    private static final String LONGEST = "ghijklmnopqr", TWELVE = "g/h/i/j/k/l/m/n/o/p/q/r";

    private static final Due due = new Due();

    public static void main(String[] args) {
        twelveWords();
        noMessageAtFirst();
        sentWords();
        checkLetters();
        eachWordOnce();
        costOfACodeWord();
        costOfAPlainWord();
        theCheapestWay();
        theFewestSentWords();
        theLongestFirst();
        thenTheSecond();
        andSoOn();
        codeWordIfAsDear();
        whatWasSentStays();
        sendTakesThePad();
        sendEmptiesThePad();
        sendIsAChange();
        sendReturnsTheCost();
        sendWithAFault();
        againByTheBookOfNow();
        againWithoutGarbles();
        againIsAChange();
        againReturnsTheCost();
        againWithoutAMessage();
        due.end();
    }

    /** For how many words of the message each sent word stands, as the digits of a number. */
    private static long spans(GarbleWords x) {
        long digits = 0;
        for (int word = 0; word < x.count(2); word++) {
            digits = digits * 10 + x.received(word, 3);
        }
        return digits;
    }

    private static void twelveWords() {
        due.term("The message is up to 12 plain words");
        GarbleWords x = new GarbleWords();
        due.is("one", Due.send(x, "z"), 10);
        due.is("words", x.count(1), 1);
        due.is("twelve", Due.send(x, TWELVE), 120);
        due.is("words", x.count(1), 12);
        due.is("sent words", x.count(2), 12);
        due.word(x, 11, "rr");
        due.is("none", Due.send(x, ""), BAD_TEXT);
        due.is("thirteen", Due.send(x, TWELVE + "/s"), BAD_TEXT);
        due.is("words", x.count(1), 12);
    }

    private static void noMessageAtFirst() {
        due.term("(none at first)");
        GarbleWords x = Due.book("go");
        due.is("words", x.count(1), 0);
        due.is("sent words", x.count(2), 0);
        due.is("sendAgain", x.sendAgain(), NOT_POSSIBLE);
        due.is("saves", x.saves(0), NOT_POSSIBLE);
    }

    private static void sentWords() {
        due.term("It is sent as a row of sent words: a sent word is the code word of an entry, for a phrase that"
            + " stands in the message, or a plain word with its check letter behind it");
        GarbleWords x = Due.book("go", "so/no", "to/mo/" + LONGEST);
        Due.send(x, "no/so/no/go/to/mo/" + LONGEST + "/" + LONGEST);
        due.word(x, 0, "nov");
        due.word(x, 1, "abbb");
        due.word(x, 2, "aaaa");
        due.word(x, 3, "accc");
        due.word(x, 4, LONGEST + "m");
        due.is("sent words", x.count(2), 5);
    }

    private static void checkLetters() {
        due.term("the plain letter whose number is the sum of the numbers of its letters, left over by 20.");
        String[] words = {
            "g", "gggggggggggg", "z", "yh", "zh", "zi", "zy", "zz", "zzh", "zzi", "zzzzzzzzzzzz", "zzzzzzzzzzzy"};
        String[] checks = {"g", "g", "z", "z", "g", "h", "x", "y", "z", "g", "o", "n"};
        GarbleWords x = new GarbleWords();
        for (int i = 0; i < words.length; i++) {
            Due.send(x, words[i]);
            due.word(x, 0, words[i] + checks[i]);
        }
    }

    private static void eachWordOnce() {
        due.term("Each word of the message is sent once, in their order.");
        GarbleWords x = Due.book("h/i", "i/j", "j/k/l", "l");
        Due.send(x, "g/h/i/j/k/l/g");
        due.word(x, 0, "gg");
        due.word(x, 1, "aaaa");
        due.word(x, 2, "accc");
        due.word(x, 3, "gg");
        due.is("words that they stand for", spans(x), 1231);
        // An entry cannot be used again for words that are sent already.
        GarbleWords y = Due.book("g/g");
        due.is("g three times", Due.send(y, "g/g/g"), 20);
        due.is("words that they stand for", spans(y), 21);
        due.is("g five times", Due.send(y, "g/g/g/g/g"), 30);
        due.is("words that they stand for", spans(y), 221);
        // A phrase that would go on behind the end of the message does not stand in it.
        due.is("the beginning of a phrase", Due.send(Due.book("g/h/i"), "i/g/h"), 30);
    }

    private static void costOfACodeWord() {
        due.term("A code word costs COST");
        for (int cost : new int[] {1, 10, 99}) {
            GarbleWords x = Due.book("g", LONGEST + "/" + LONGEST + "/" + LONGEST);
            x.set(COST, cost);
            x.set(WIDE, 2);
            due.is("for one letter", Due.send(x, "g"), cost);
            due.word(x, 0, "aaaa");
            due.is("for 36", Due.send(x, LONGEST + "/" + LONGEST + "/" + LONGEST), cost);
            due.word(x, 0, "abbb");
        }
    }

    private static void costOfAPlainWord() {
        due.term("a plain word of n letters costs COST * (n / WIDE, rounded up).");
        int[] costs = {1, 2, 10, 99};
        for (int cost : costs) {
            for (int wide = 2; wide <= 15; wide++) {
                GarbleWords x = new GarbleWords();
                x.set(COST, cost);
                x.set(WIDE, wide);
                for (int letters = 1; letters <= 12; letters++) {
                    int want = cost * (int) Math.ceil(letters / (double) wide);
                    due.is(letters + " letters, WIDE " + wide, Due.send(x, "z".repeat(letters)), want);
                }
            }
        }
        GarbleWords x = new GarbleWords();
        due.is("as long as WIDE, without its check letter", Due.send(x, "ghijklmn"), 10);
        due.is("one letter more", Due.send(x, "ghijklmno"), 20);
        x.set(COST, 99);
        x.set(WIDE, 2);
        String six = (LONGEST + "/").repeat(5) + LONGEST;
        due.is("the dearest word", Due.send(x, LONGEST), 594);
        due.is("six of them", Due.send(x, six), 6 * 594);
    }

    private static void theCheapestWay() {
        due.term("The message is sent in the cheapest way;");
        GarbleWords x = Due.book("g/hhhh/i", "g", "i/jjjjjjjj");
        x.set(WIDE, 2);
        // g/hhhh/i and jjjjjjjj: 10 + 40; g, hhhh and i/jjjjjjjj: 10 + 20 + 10.
        due.is("though with more sent words", Due.send(x, "g/hhhh/i/jjjjjjjj"), 40);
        due.is("words that they stand for", spans(x), 112);
        // The longest entry first would cost 30: m/n/o, then p, q.
        GarbleWords y = Due.book("m/n/o", "m/n", "o/p/q");
        due.is("not the longest entry first", Due.send(y, "m/n/o/p/q"), 20);
        due.is("words that they stand for", spans(y), 23);
    }

    private static void theFewestSentWords() {
        due.term("of several in the one with the fewest sent words;");
        // 20 + 10 with two sent words, or 10 + 10 + 10 with three, of which the first one is longer.
        GarbleWords x = Due.book("ghijklmnop/h", "h/i/j");
        due.is("as dear both ways", Due.send(x, "ghijklmnop/h/i/j"), 30);
        due.is("words that they stand for", spans(x), 13);
    }

    private static void theLongestFirst() {
        due.term("of these in the one whose first sent word stands for the most words of the message,");
        GarbleWords x = Due.book("go", "go/go");
        Due.send(x, "go/go/go");
        due.is("2, 1, not 1, 2", spans(x), 21);
        GarbleWords y = Due.book("no/so", "to/no/so", "to/no", "no/so/to");
        Due.send(y, "no/so/to/no/so");
        due.is("3, 2, not 2, 3", spans(y), 32);
        Due.send(y, "no/so/to/no");
        due.is("3, 1, not 2, 2", spans(y), 31);
        GarbleWords z = Due.book("h/i/j", "g/h/i", "g/h", "i/j");
        Due.send(z, "g/h/i/j");
        due.is("3, 1, not 2, 2 or 1, 3", spans(z), 31);
    }

    private static void thenTheSecond() {
        due.term("then the second one,");
        GarbleWords x = Due.book("g/h", "h/i", "h");
        Due.send(x, "z/g/h/i");
        due.is("1, 2, 1, not 1, 1, 2", spans(x), 121);
        GarbleWords y = Due.book("m/n/o", "n/o", "n/o/p");
        Due.send(y, "m/n/o/p/n/o");
        due.is("3, 1, 2", spans(y), 312);
        Due.send(y, "m/n/o/m/n/o/p");
        due.is("3, 3, 1, not 3, 1, 3", spans(y), 331);
    }

    private static void andSoOn() {
        due.term("and so on.");
        GarbleWords x = Due.book("g/h", "h/i");
        Due.send(x, "z/z/z/g/h/i");
        due.is("the fourth", spans(x), 11121);
        Due.send(x, "z/z/z/z/z/z/z/z/z/g/h/i");
        due.is("the tenth", spans(x), 11111111121L);
        Due.send(x, "g/h/i/g/h/i/g/h/i/g/h/i");
        due.is("four times", spans(x), 21212121);
    }

    private static void codeWordIfAsDear() {
        due.term("A single word that can be sent both ways for the same cost is sent as the code word.");
        GarbleWords x = Due.book("g", LONGEST);
        due.is("10 both ways", Due.send(x, "g"), 10);
        due.word(x, 0, "aaaa");
        due.is("10 instead of 20", Due.send(x, LONGEST), 10);
        due.word(x, 0, "abbb");
        x.set(WIDE, 12);
        due.is("10 both ways", Due.send(x, LONGEST), 10);
        due.word(x, 0, "abbb");
        due.is("each of them", Due.send(x, "h/g/" + LONGEST + "/g"), 40);
        due.word(x, 0, "hh");
        due.word(x, 1, "aaaa");
        due.word(x, 2, "abbb");
        due.word(x, 3, "aaaa");
    }

    private static String sent(GarbleWords x) {
        StringBuilder text = new StringBuilder();
        for (int word = 0; word < x.count(2); word++) {
            text.append(Due.word(x, word)).append(' ').append(x.received(word, 3)).append(' ')
                .append(x.received(word, 5)).append(' ');
        }
        return text.append(x.count(3)).toString();
    }

    private static void whatWasSentStays() {
        due.term("What was sent stays as it is until a message is sent anew, also if the book changes.");
        GarbleWords x = Due.book("go", "so");
        Due.send(x, "go/so/no/ghijklmnopqr");
        x.garble(2, 0, 0);
        String before = sent(x);
        due.same("sent", before, "aaaa 1 10 abbb 1 10 aov 1 10 ghijklmnopqrm 1 20 50");
        Due.enter(x, "no");
        due.same("with one more entry", sent(x), before);
        x.recode(0, 1295);
        due.same("with another code word", sent(x), before);
        x.drop(0);
        x.drop(0);
        x.drop(0);
        due.same("with an empty book", sent(x), before);
        x.set(COST, 99);
        x.set(WIDE, 2);
        x.set(GarbleWords.APART, 1);
        due.same("with other settings", sent(x), before);
        Due.send(x, "go/");
        due.same("with a message that was refused", sent(x), before);
        x.costOf();
        x.bestPhrase(2);
        due.same("with questions", sent(x), before);
        x.sendAgain();
        due.same("anew", sent(x), "goo 1 99 sog 1 99 nov 1 99 ghijklmnopqrm 1 594 891");
    }

    private static void sendTakesThePad() {
        due.promise(6, "Sends the message of the pad");
        GarbleWords x = Due.book("so/no");
        Due.send(x, "ship/so/no/soon");
        due.is("words", x.count(1), 4);
        due.is("sent words", x.count(2), 3);
        due.word(x, 1, "aaaa");
        Due.send(x, "z");
        due.is("words of another one", x.count(1), 1);
        due.is("sent words of another one", x.count(2), 1);
        due.word(x, 0, "zz");
        due.is("no more of the first one", x.letter(1, 0), GarbleWords.NO_SUCH);
    }

    private static void sendEmptiesThePad() {
        due.promise(6, "and empties the pad");
        GarbleWords x = new GarbleWords();
        String full = "gggggggg/".repeat(8) + "zzzzzzzz";
        due.is("a full pad", Due.send(x, full), 90);
        due.is("length", x.count(10), 0);
        due.is("fault", x.fault(), 0);
        due.is("nothing to send", x.send(), BAD_TEXT);
    }

    private static void sendIsAChange() {
        due.promise(6, "This is a change.");
        GarbleWords x = new GarbleWords();
        Due.send(x, "go");
        String before = Due.state(x);
        Due.send(x, "so/no");
        Due.send(x, "so/no");
        due.is("also if it is the same", x.count(11), 3);
        x.undo();
        x.undo();
        due.same("undone", Due.state(x), before);
        due.is("the pad is empty all the same", x.count(10), 0);
        x.undo();
        due.is("undone", x.count(1), 0);
    }

    private static void sendReturnsTheCost() {
        due.promise(6, "Returns its cost");
        GarbleWords x = Due.book("go/so");
        due.is("10 + 20 + 10", Due.send(x, "go/so/ghijklmno/z"), 40);
        due.is("as it was sent", x.count(3), 40);
        x.set(COST, 1);
        due.is("the least", Due.send(x, "z"), 1);
        x.set(COST, 99);
        due.is("twelve words", Due.send(x, TWELVE), 1188);
    }

    private static void sendWithAFault() {
        due.promise(6, "BAD_TEXT if the pad has a fault.");
        GarbleWords x = new GarbleWords();
        due.is("a new object", x.send(), BAD_TEXT);
        Due.send(x, "go/so");
        String before = Due.state(x);
        String[] texts = {
            "", "go/", "/", "/go", "go//so", "f", "gf", "g{", "GO", "go.", TWELVE + "/", TWELVE + "/s", LONGEST + "s"};
        for (String text : texts) {
            due.is("send " + text, Due.send(x, text), BAD_TEXT);
            due.is("the pad stays", x.count(10), text.length());
        }
        due.same("what was sent", Due.state(x), before);
        due.is("no change", x.count(11), 1);
    }

    private static void againByTheBookOfNow() {
        due.promise(7, "Sends the latest message anew, by the book of now");
        GarbleWords x = new GarbleWords();
        Due.send(x, "to");
        Due.send(x, "go/so");
        Due.type(x, "no/no");
        due.is("by an empty book", x.sendAgain(), 20);
        due.is("the latest message", x.count(1), 2);
        due.is("the pad stays", x.wipe(), 5);
        Due.enter(x, "go/so");
        x.sendAgain();
        due.word(x, 0, "aaaa");
        due.is("sent words", x.count(2), 1);
        x.recode(0, 1295);
        x.sendAgain();
        due.word(x, 0, "ffff");
        x.drop(0);
        x.sendAgain();
        due.word(x, 0, "goo");
        due.word(x, 1, "sog");
        due.is("sent words", x.count(2), 2);
    }

    private static void againWithoutGarbles() {
        due.promise(7, "without garbles");
        GarbleWords x = Due.book("so");
        Due.send(x, "go/so");
        Due.garble(x, 0, "abc");
        Due.garble(x, 1, "zzzz");
        due.is("garbled", x.count(9), 7);
        x.sendAgain();
        due.is("not garbled", x.count(9), 0);
        due.word(x, 0, "goo");
        due.word(x, 1, "aaaa");
    }

    private static void againIsAChange() {
        due.promise(7, "This is a change.");
        GarbleWords x = new GarbleWords();
        Due.send(x, "go");
        x.sendAgain();
        due.is("also if it is the same", x.count(11), 2);
        x.garble(0, 0, 0);
        x.sendAgain();
        x.undo();
        due.is("undone: garbled again", x.count(9), 1);
        due.is("changes", x.count(11), 3);
    }

    private static void againReturnsTheCost() {
        due.promise(7, "Returns its cost");
        GarbleWords x = new GarbleWords();
        Due.send(x, "go/ghijklmnop");
        due.is("the same", x.sendAgain(), 30);
        x.set(COST, 7);
        due.is("not yet anew", x.count(3), 30);
        due.is("by the settings of now", x.sendAgain(), 21);
        due.is("as it was sent", x.count(3), 21);
        Due.enter(x, "ghijklmnop");
        due.is("by the book of now", x.sendAgain(), 14);
    }

    private static void againWithoutAMessage() {
        due.promise(7, "NOT_POSSIBLE if there is none.");
        GarbleWords x = Due.book("go");
        Due.type(x, "go");
        due.is("nothing was sent", x.sendAgain(), NOT_POSSIBLE);
        due.is("the pad stays", x.count(10), 2);
        due.is("no change", x.count(11), 1);
        Due.send(x, "go/");
        due.is("it was refused", x.sendAgain(), NOT_POSSIBLE);
        x.save(0);
        Due.send(x, "go");
        x.undo();
        due.is("it was undone", x.sendAgain(), NOT_POSSIBLE);
        Due.send(x, "go");
        x.restore(0);
        due.is("there was none when it was saved", x.sendAgain(), NOT_POSSIBLE);
        x.undo();
        due.is("there is one again", x.sendAgain(), 10);
    }
}
