/**
 * Telegrams that are made shorter by a book of code words which survive a garbled letter.
 * What each method promises stands in the document (DOC.md).
 */
public final class GarbleWords {
    public static final int NO_SUCH = -1, BAD_VALUE = -2, BAD_TEXT = -3, TOO_MANY = -4, NOT_POSSIBLE = -5, NONE = -6;
    public static final int COST = 0, WIDE = 1, APART = 2;

    private static final int SETTINGS = 3;
    private static final int[] LOWEST = {1, 2, 1};
    private static final int[] HIGHEST = {99, 15, 4};

    private static final int ALPHABET = 26, CODE_ALPHABET = 6, PLAIN_ALPHABET = 20;
    private static final int WORD_LETTERS = 12, SENT_LETTERS = WORD_LETTERS + 1, CODE_LETTERS = 4;
    private static final int MESSAGE_WORDS = 12, PHRASE_WORDS = 3;
    private static final int ENTRIES = 16, CODES = 1296, HALF_CODES = 36;
    private static final char FIRST_PLAIN = 'g', LAST_PLAIN = 'z', BETWEEN = '/';
    private static final int PAD_SIGNS = 80, PUT_SIGNS = 8, LOWEST_SIGN = 33, HIGHEST_SIGN = 126;
    private static final int STATES = 6, SLOTS = 2;

    private static final int WELL_CODE = 0, MENDED_CODE = 1, WELL_PLAIN = 2, WRONG = 3, MISREAD = 4;
    private static final int WORD_BITS = 5, WORD_MASK = 31;

    private final State now = new State();
    private final History history = new History();
    private final State[] slots = new State[SLOTS];
    private final Pad pad = new Pad();
    private final Words read = new Words();
    private final Route route = new Route();
    private final FreeCodes free = new FreeCodes();
    private final Reception reception = new Reception();

    public GarbleWords() {
    }

    // ---- changes

    public int set(int setting, int value) {
        if (setting < 0 || setting >= SETTINGS || value < at(LOWEST, setting) || value > at(HIGHEST, setting)) {
            return BAD_VALUE;
        }
        history.keep(now);
        int previous = at(now.settings, setting);
        lay(now.settings, setting, value);
        return previous;
    }

    public int enter() {
        if (!readPad() || read.size > PHRASE_WORDS) {
            return BAD_TEXT;
        }
        if (now.book.size >= ENTRIES) {
            return TOO_MANY;
        }
        free.lookAt(now.book, now.apart());
        int code = free.lowestFrom(0);
        if (code == NONE || now.book.find(read, 0, read.size) != NONE) {
            return NOT_POSSIBLE;
        }
        history.keep(now);
        now.book.append(read, code);
        pad.length = 0;
        return code;
    }

    public int recode(int entry, int code) {
        if (!now.book.has(entry)) {
            return NO_SUCH;
        }
        if (!isCode(code)) {
            return BAD_VALUE;
        }
        int least = now.book.leastFromOthers(code, entry);
        if (least != NONE && least < now.apart()) {
            return NOT_POSSIBLE;
        }
        history.keep(now);
        int previous = now.book.codeOf(entry);
        lay(now.book.codes, entry, code);
        return previous;
    }

    public int drop(int entry) {
        if (!now.book.has(entry)) {
            return NO_SUCH;
        }
        history.keep(now);
        now.book.remove(entry);
        return now.book.size;
    }

    public int send() {
        if (!readPad()) {
            return BAD_TEXT;
        }
        history.keep(now);
        now.telegram.message.copyFrom(read);
        pad.length = 0;
        return sendMessage();
    }

    public int sendAgain() {
        if (now.telegram.message.size == 0) {
            return NOT_POSSIBLE;
        }
        history.keep(now);
        return sendMessage();
    }

    public int garble(int word, int place, int letter) {
        if (!now.telegram.hasPlace(word, place)) {
            return NO_SUCH;
        }
        if (letter < 0 || letter >= ALPHABET) {
            return BAD_VALUE;
        }
        history.keep(now);
        int previous = now.telegram.receivedAt(word, place);
        lay(now.telegram.received, word * SENT_LETTERS + place, letter);
        return previous;
    }

    // ---- the book

    public int entry(int entry, int what) {
        if (!now.book.has(entry)) {
            return NO_SUCH;
        }
        switch (what) {
            case 0: return now.book.codeOf(entry);
            case 1: return now.book.wordsOf(entry);
            case 2: return now.book.lettersOf(entry);
            case 3: return now.book.leastFromOthers(now.book.codeOf(entry), entry);
            case 4: return now.plainCostOfPhrase(entry) - now.codeCost() + 10000;
            case 5: return now.timesSent(entry);
            default: return BAD_VALUE;
        }
    }

    public int phraseSign(int entry, int place) {
        return now.book.has(entry) ? now.book.signAt(entry, place) : NO_SUCH;
    }

    public int count(int what) {
        switch (what) {
            case 0: return now.book.size;
            case 1: return now.telegram.message.size;
            case 2: return now.telegram.size;
            case 3: return now.telegram.costInAll();
            case 4: return now.plainCostOfMessage();
            case 5: return now.book.leastDistance();
            case 6: return now.codeCost();
            case 7: return at(now.settings, WIDE);
            case 8: return now.apart();
            case 9: return now.telegram.garbledLetters();
            case 10: return pad.length;
            case 11: return history.size;
            default: return BAD_VALUE;
        }
    }

    // ---- what was sent, and is received

    public int letter(int word, int place) {
        if (!now.telegram.has(word)) {
            return NO_SUCH;
        }
        if (place < 0) {
            return BAD_VALUE;
        }
        return now.telegram.hasPlace(word, place) ? now.telegram.receivedAt(word, place) : NONE;
    }

    public int received(int word, int what) {
        if (!now.telegram.has(word)) {
            return NO_SUCH;
        }
        reception.receive(now, word);
        switch (what) {
            case 0: return reception.how;
            case 1: return reception.entry;
            case 2: return reception.place;
            case 3: return at(now.telegram.spans, word);
            case 4: return reception.asSent ? 1 : 0;
            case 5: return at(now.telegram.costs, word);
            default: return BAD_VALUE;
        }
    }

    public int receivedSo(int how) {
        if (how < WELL_CODE || how > MISREAD) {
            return BAD_VALUE;
        }
        int words = 0;
        for (int word = 0; word < now.telegram.size; word++) {
            reception.receive(now, word);
            boolean misread = reception.how != WRONG && !reception.asSent;
            if (how == MISREAD ? misread : reception.how == how) {
                words++;
            }
        }
        return words;
    }

    // ---- what if; nothing changes

    public int costOf() {
        if (!readPad()) {
            return BAD_TEXT;
        }
        return route.plan(now, read, NONE, NONE, 0);
    }

    public int saves(int entry) {
        if (!now.book.has(entry)) {
            return NO_SUCH;
        }
        Words message = now.telegram.message;
        if (message.size == 0) {
            return NOT_POSSIBLE;
        }
        int without = route.plan(now, message, entry, NONE, 0);
        return without - route.plan(now, message, NONE, NONE, 0);
    }

    public int bestPhrase(int what) {
        if (what < 0 || what > 2) {
            return BAD_VALUE;
        }
        Words message = now.telegram.message;
        int bestFirst = NONE, bestSpan = NONE, bestCost = NONE;
        for (int span = 1; span <= PHRASE_WORDS; span++) {
            for (int first = 0; first + span <= message.size; first++) {
                if (now.book.find(message, first, span) == NONE) {
                    int cost = route.plan(now, message, NONE, first, span);
                    if (bestCost == NONE || cost < bestCost) {
                        bestFirst = first;
                        bestSpan = span;
                        bestCost = cost;
                    }
                }
            }
        }
        return what == 0 ? bestFirst : what == 1 ? bestSpan : bestCost;
    }

    public int left() {
        free.lookAt(now.book, now.apart());
        int found = 0;
        int code = free.lowestFrom(0);
        while (code != NONE && found < CODES) {
            found++;
            free.markNear(code, now.apart());
            code = free.lowestFrom(code + 1);
        }
        return found;
    }

    public int distance(int code, int other) {
        return isCode(code) && isCode(other) ? unlikePlaces(code, other) : BAD_VALUE;
    }

    // ---- the pad

    public int put(long characters) {
        int signs = signsIn(characters);
        if (signs == 0) {
            return BAD_VALUE;
        }
        if (pad.length + signs > PAD_SIGNS) {
            return TOO_MANY;
        }
        for (int behind = signs - 1; behind >= 0; behind--) {
            pad.append((int) (characters >>> (8 * behind)) & 255);
        }
        return pad.length;
    }

    public int wipe() {
        int length = pad.length;
        pad.length = 0;
        return length;
    }

    public int fault() {
        return pad.firstFault();
    }

    // ---- undo, saving

    public int undo() {
        return history.takeBack(now) ? history.size : NOT_POSSIBLE;
    }

    public int save(int slot) {
        if (slot < 0 || slot >= slots.length) {
            return BAD_VALUE;
        }
        State saved = slots[slot];
        if (saved == null) {
            saved = new State();
            slots[slot] = saved;
        }
        saved.copyFrom(now);
        return now.book.size;
    }

    public int restore(int slot) {
        if (slot < 0 || slot >= slots.length) {
            return BAD_VALUE;
        }
        State saved = slots[slot];
        if (saved == null) {
            return NOT_POSSIBLE;
        }
        history.keep(now);
        now.copyFrom(saved);
        return now.book.size;
    }

    // ---- what several methods need

    /** Reads the words of the pad; false if it has a fault. */
    private boolean readPad() {
        if (pad.firstFault() != NONE) {
            return false;
        }
        pad.readInto(read);
        return true;
    }

    private int sendMessage() {
        int cost = route.plan(now, now.telegram.message, NONE, NONE, 0);
        now.telegram.write(now, route);
        return cost;
    }

    /** How many characters the number holds; 0 if it holds none, or anything else too. */
    private static int signsIn(long characters) {
        int signs = 0;
        long rest = characters;
        while (rest != 0 && signs < PUT_SIGNS) {
            int sign = (int) rest & 255;
            if (sign < LOWEST_SIGN || sign > HIGHEST_SIGN) {
                return 0;
            }
            signs++;
            rest >>>= 8;
        }
        return signs;
    }

    private static boolean isCode(int code) {
        return code >= 0 && code < CODES;
    }

    private static int codeLetterOf(int code, int place) {
        int rest = code;
        for (int behind = place + 1; behind < CODE_LETTERS; behind++) {
            rest /= CODE_ALPHABET;
        }
        return rest % CODE_ALPHABET;
    }

    private static int unlikePlaces(int code, int other) {
        return unlikeInHalf(code / HALF_CODES, other / HALF_CODES)
            + unlikeInHalf(code % HALF_CODES, other % HALF_CODES);
    }

    /** The distance of two halves of code words, of two letters each. */
    private static int unlikeInHalf(int half, int other) {
        int unlike = half / CODE_ALPHABET == other / CODE_ALPHABET ? 0 : 1;
        return half % CODE_ALPHABET == other % CODE_ALPHABET ? unlike : unlike + 1;
    }

    // A plain word is kept as a number, five bits for each letter (1 to 20, the last letter lowest):
    // twelve letters fit into a long, and two words are alike if their numbers are.

    private static long longerWord(long word, int plainLetter) {
        return word << WORD_BITS | (plainLetter + 1);
    }

    private static int lengthOf(long word) {
        int length = 0;
        while (length < WORD_LETTERS && word >>> (WORD_BITS * length) != 0) {
            length++;
        }
        return length;
    }

    private static int plainLetterOf(long word, int place) {
        int behind = lengthOf(word) - 1 - place;
        return ((int) (word >>> (WORD_BITS * behind)) & WORD_MASK) - 1;
    }

    private static int checkLetterOf(long word) {
        int length = lengthOf(word);
        int sum = 0;
        for (int place = 0; place < length; place++) {
            sum += plainLetterOf(word, place);
        }
        return sum % PLAIN_ALPHABET;
    }

    // Rows are read and written with their bounds looked at, since no call may ever throw.

    private static int at(int[] row, int index) {
        return index >= 0 && index < row.length ? row[index] : 0;
    }

    private static long at(long[] row, int index) {
        return index >= 0 && index < row.length ? row[index] : 0;
    }

    private static void lay(int[] row, int index, int value) {
        if (index >= 0 && index < row.length) {
            row[index] = value;
        }
    }

    private static void lay(long[] row, int index, long value) {
        if (index >= 0 && index < row.length) {
            row[index] = value;
        }
    }

    private static void copyRow(int[] from, int[] to) {
        System.arraycopy(from, 0, to, 0, Math.min(from.length, to.length));
    }

    private static void copyRow(long[] from, long[] to) {
        System.arraycopy(from, 0, to, 0, Math.min(from.length, to.length));
    }

    /** A row of plain words: a message, or the words of the pad. */
    private static final class Words {
        private final long[] words = new long[MESSAGE_WORDS];
        private int size = 0;

        long wordAt(int index) {
            return index >= 0 && index < size && index < words.length ? words[index] : 0;
        }

        void append(long word) {
            if (size < words.length) {
                lay(words, size, word);
                size++;
            }
        }

        void copyFrom(Words other) {
            copyRow(other.words, words);
            size = other.size;
        }

        boolean hasLike(int first, int other, int span) {
            for (int index = 0; index < span; index++) {
                if (wordAt(first + index) != wordAt(other + index)) {
                    return false;
                }
            }
            return true;
        }
    }

    private static final class Pad {
        private final int[] signs = new int[PAD_SIGNS];
        private int length = 0;

        void append(int sign) {
            if (length < signs.length) {
                lay(signs, length, sign);
                length++;
            }
        }

        int firstFault() {
            int words = 1;
            int letters = 0;
            for (int index = 0; index < length; index++) {
                int sign = at(signs, index);
                if (sign == BETWEEN && letters > 0 && words < MESSAGE_WORDS) {
                    words++;
                    letters = 0;
                } else if (sign >= FIRST_PLAIN && sign <= LAST_PLAIN && letters < WORD_LETTERS) {
                    letters++;
                } else {
                    return index;
                }
            }
            return letters == 0 ? length : NONE;
        }

        /** Only a pad without a fault is read. */
        void readInto(Words read) {
            read.size = 0;
            long word = 0;
            for (int index = 0; index < length; index++) {
                int sign = at(signs, index);
                if (sign == BETWEEN) {
                    read.append(word);
                    word = 0;
                } else {
                    word = longerWord(word, sign - FIRST_PLAIN);
                }
            }
            read.append(word);
        }
    }

    private static final class Book {
        private final int[] codes = new int[ENTRIES];
        private final long[] words = new long[ENTRIES * PHRASE_WORDS];
        private int size = 0;

        boolean has(int entry) {
            return entry >= 0 && entry < size;
        }

        int codeOf(int entry) {
            return at(codes, entry);
        }

        /** A word of a phrase; 0 behind its last one. */
        long wordAt(int entry, int index) {
            return at(words, entry * PHRASE_WORDS + index);
        }

        int wordsOf(int entry) {
            int count = 0;
            while (count < PHRASE_WORDS && wordAt(entry, count) != 0) {
                count++;
            }
            return count;
        }

        int lettersOf(int entry) {
            int letters = 0;
            for (int index = 0; index < PHRASE_WORDS; index++) {
                letters += lengthOf(wordAt(entry, index));
            }
            return letters;
        }

        /** A character of a phrase; NO_SUCH where it has none. */
        int signAt(int entry, int place) {
            int words = wordsOf(entry);
            int rest = place;
            for (int index = 0; index < words && rest >= 0; index++) {
                long word = wordAt(entry, index);
                int length = lengthOf(word);
                if (rest < length) {
                    return FIRST_PLAIN + plainLetterOf(word, rest);
                }
                if (rest == length && index + 1 < words) {
                    return BETWEEN;
                }
                rest -= length + 1;
            }
            return NO_SUCH;
        }

        /** Whether the phrase of an entry is what stands in a text. */
        boolean means(int entry, Words text, int first, int span) {
            for (int index = 0; index < PHRASE_WORDS; index++) {
                long word = index < span ? text.wordAt(first + index) : 0;
                if (wordAt(entry, index) != word) {
                    return false;
                }
            }
            return true;
        }

        /** The entry with the phrase that stands in a text; NONE if there is none. */
        int find(Words text, int first, int span) {
            for (int entry = 0; entry < size; entry++) {
                if (means(entry, text, first, span)) {
                    return entry;
                }
            }
            return NONE;
        }

        /** The least distance of a code word from those of all entries but one; NONE without others. */
        int leastFromOthers(int code, int except) {
            int least = NONE;
            for (int entry = 0; entry < size; entry++) {
                if (entry != except) {
                    int unlike = unlikePlaces(code, codeOf(entry));
                    least = least == NONE ? unlike : Math.min(least, unlike);
                }
            }
            return least;
        }

        int leastDistance() {
            int least = NONE;
            for (int entry = 0; entry < size; entry++) {
                int nearest = leastFromOthers(codeOf(entry), entry);
                least = least == NONE ? nearest : Math.min(least, nearest);
            }
            return least;
        }

        void append(Words phrase, int code) {
            if (size < ENTRIES) {
                lay(codes, size, code);
                for (int index = 0; index < PHRASE_WORDS; index++) {
                    lay(words, size * PHRASE_WORDS + index, phrase.wordAt(index));
                }
                size++;
            }
        }

        void remove(int entry) {
            for (int behind = entry + 1; behind < size; behind++) {
                lay(codes, behind - 1, codeOf(behind));
                for (int index = 0; index < PHRASE_WORDS; index++) {
                    lay(words, (behind - 1) * PHRASE_WORDS + index, wordAt(behind, index));
                }
            }
            size--;
        }

        void copyFrom(Book other) {
            copyRow(other.codes, codes);
            copyRow(other.words, words);
            size = other.size;
        }
    }

    /** The latest message, its sent words, and their letters as they are received. */
    private static final class Telegram {
        private final Words message = new Words();
        private final int[] firsts = new int[MESSAGE_WORDS];
        private final int[] spans = new int[MESSAGE_WORDS];
        private final int[] asCode = new int[MESSAGE_WORDS];
        private final int[] costs = new int[MESSAGE_WORDS];
        private final int[] lengths = new int[MESSAGE_WORDS];
        private final int[] sent = new int[MESSAGE_WORDS * SENT_LETTERS];
        private final int[] received = new int[MESSAGE_WORDS * SENT_LETTERS];
        private int size = 0;

        boolean has(int word) {
            return word >= 0 && word < size;
        }

        boolean hasPlace(int word, int place) {
            return has(word) && place >= 0 && place < at(lengths, word);
        }

        int receivedAt(int word, int place) {
            return at(received, word * SENT_LETTERS + place);
        }

        int costInAll() {
            int cost = 0;
            for (int word = 0; word < size; word++) {
                cost += at(costs, word);
            }
            return cost;
        }

        int garbledLetters() {
            int garbled = 0;
            for (int word = 0; word < size; word++) {
                for (int place = 0; place < at(lengths, word); place++) {
                    if (receivedAt(word, place) != at(sent, word * SENT_LETTERS + place)) {
                        garbled++;
                    }
                }
            }
            return garbled;
        }

        /** Writes the sent words of the message, as they were planned. */
        void write(State state, Route route) {
            size = 0;
            for (int first = 0; first < message.size; first += Math.max(1, at(route.spans, first))) {
                int entry = at(route.entries, first);
                lay(firsts, size, first);
                lay(spans, size, at(route.spans, first));
                lay(lengths, size, 0);
                if (entry == NONE) {
                    writePlain(message.wordAt(first));
                    lay(costs, size, state.plainCost(message.wordAt(first)));
                    lay(asCode, size, 0);
                } else {
                    writeCode(state.book.codeOf(entry));
                    lay(costs, size, state.codeCost());
                    lay(asCode, size, 1);
                }
                size++;
            }
            copyRow(sent, received);
        }

        private void writePlain(long word) {
            int length = lengthOf(word);
            for (int place = 0; place < length; place++) {
                writeLetter(CODE_ALPHABET + plainLetterOf(word, place));
            }
            writeLetter(CODE_ALPHABET + checkLetterOf(word));
        }

        private void writeCode(int code) {
            for (int place = 0; place < CODE_LETTERS; place++) {
                writeLetter(codeLetterOf(code, place));
            }
        }

        private void writeLetter(int sentLetter) {
            int place = at(lengths, size);
            lay(sent, size * SENT_LETTERS + place, sentLetter);
            lay(lengths, size, place + 1);
        }

        void copyFrom(Telegram other) {
            message.copyFrom(other.message);
            copyRow(other.firsts, firsts);
            copyRow(other.spans, spans);
            copyRow(other.asCode, asCode);
            copyRow(other.costs, costs);
            copyRow(other.lengths, lengths);
            copyRow(other.sent, sent);
            copyRow(other.received, received);
            size = other.size;
        }
    }

    /** Everything that is undone, saved and restored. */
    private static final class State {
        private final int[] settings = {10, 8, 3};
        private final Book book = new Book();
        private final Telegram telegram = new Telegram();

        int codeCost() {
            return at(settings, COST);
        }

        int apart() {
            return at(settings, APART);
        }

        int plainCost(long word) {
            int wide = Math.max(1, at(settings, WIDE));
            return codeCost() * ((lengthOf(word) + wide - 1) / wide);
        }

        int plainCostOfPhrase(int entry) {
            int cost = 0;
            for (int index = 0; index < PHRASE_WORDS; index++) {
                cost += plainCost(book.wordAt(entry, index));
            }
            return cost;
        }

        int plainCostOfMessage() {
            int cost = 0;
            for (int index = 0; index < telegram.message.size; index++) {
                cost += plainCost(telegram.message.wordAt(index));
            }
            return cost;
        }

        /** How many sent words were sent as code words for the phrase of an entry. */
        int timesSent(int entry) {
            int times = 0;
            for (int word = 0; word < telegram.size; word++) {
                int first = at(telegram.firsts, word);
                int span = at(telegram.spans, word);
                if (at(telegram.asCode, word) == 1 && book.means(entry, telegram.message, first, span)) {
                    times++;
                }
            }
            return times;
        }

        void copyFrom(State other) {
            copyRow(other.settings, settings);
            book.copyFrom(other.book);
            telegram.copyFrom(other.telegram);
        }
    }

    /** The latest states before changes; the oldest one gives its room to the newest. */
    private static final class History {
        private final State[] states = new State[STATES];
        private int oldest = 0;
        private int size = 0;

        void keep(State state) {
            if (size == STATES) {
                oldest = (oldest + 1) % STATES;
                size--;
            }
            int index = (oldest + size) % STATES;
            if (index < 0 || index >= states.length) {
                return;
            }
            State before = states[index];
            if (before == null) {
                before = new State();
                states[index] = before;
            }
            before.copyFrom(state);
            size++;
        }

        /** Puts the newest state into the given one; false if there is none. */
        boolean takeBack(State state) {
            int index = (oldest + size - 1) % STATES;
            if (size == 0 || index < 0 || index >= states.length) {
                return false;
            }
            State before = states[index];
            if (before == null) {
                return false;
            }
            state.copyFrom(before);
            size--;
            return true;
        }
    }

    /**
     * The cheapest way to send a text, planned from its last word to its first: the rows tell, for what
     * stands from a word on, the cost, the number of sent words, and the first of these (its words, and
     * its entry, or NONE if it is plain).
     */
    private static final class Route {
        private final int[] costs = new int[MESSAGE_WORDS + 1];
        private final int[] counts = new int[MESSAGE_WORDS + 1];
        private final int[] spans = new int[MESSAGE_WORDS];
        private final int[] entries = new int[MESSAGE_WORDS];

        /**
         * Returns the cost by the book without an entry (NONE: with all), and with one more phrase, which
         * stands in the text itself (its words, from its first one on; none if they are 0).
         */
        int plan(State state, Words text, int without, int moreFirst, int moreSpan) {
            lay(costs, text.size, 0);
            lay(counts, text.size, 0);
            for (int first = text.size - 1; first >= 0; first--) {
                choose(first, 1, NONE, state.plainCost(text.wordAt(first)));
                for (int span = 1; span <= PHRASE_WORDS && first + span <= text.size; span++) {
                    int entry = state.book.find(text, first, span);
                    if (span == moreSpan && text.hasLike(first, moreFirst, span)) {
                        entry = ENTRIES;
                    }
                    if (entry != NONE && entry != without && isNoWorse(first, span, state.codeCost())) {
                        choose(first, span, entry, state.codeCost());
                    }
                }
            }
            return at(costs, 0);
        }

        /** Of equally good ways the later one is taken: code words are tried behind plain ones, the longest last. */
        private boolean isNoWorse(int first, int span, int cost) {
            int newCost = cost + at(costs, first + span);
            int newCount = 1 + at(counts, first + span);
            return newCost < at(costs, first) || newCost == at(costs, first) && newCount <= at(counts, first);
        }

        private void choose(int first, int span, int entry, int cost) {
            lay(costs, first, cost + at(costs, first + span));
            lay(counts, first, 1 + at(counts, first + span));
            lay(spans, first, span);
            lay(entries, first, entry);
        }
    }

    /** The code words that are far enough from those that are taken. */
    private static final class FreeCodes {
        private final boolean[] near = new boolean[CODES];

        void lookAt(Book book, int apart) {
            for (int code = 0; code < near.length; code++) {
                near[code] = false;
            }
            for (int entry = 0; entry < book.size; entry++) {
                markNear(book.codeOf(entry), apart);
            }
        }

        /** Looks at the first halves ahead of the second ones, since most of them are too far off already. */
        void markNear(int code, int apart) {
            for (int begin = 0; begin < HALF_CODES; begin++) {
                int unlike = unlikeInHalf(begin, code / HALF_CODES);
                for (int end = 0; end < HALF_CODES && unlike < apart; end++) {
                    int other = begin * HALF_CODES + end;
                    if (unlike + unlikeInHalf(end, code % HALF_CODES) < apart && other < near.length) {
                        near[other] = true;
                    }
                }
            }
        }

        /** The lowest one from a number on; NONE if there is none. */
        int lowestFrom(int start) {
            for (int code = Math.max(0, start); code < near.length; code++) {
                if (!near[code]) {
                    return code;
                }
            }
            return NONE;
        }
    }

    /** How one sent word is received, by the book of now. */
    private static final class Reception {
        private int how = WRONG;
        private int entry = NONE;
        private int place = NONE;
        private boolean asSent = false;

        void receive(State state, int word) {
            how = WRONG;
            entry = NONE;
            place = NONE;
            asSent = false;
            if (isCodeWord(state.telegram, word)) {
                receiveCode(state, word);
            } else {
                receivePlain(state.telegram, word);
            }
        }

        private static boolean isCodeWord(Telegram telegram, int word) {
            int codeLetters = 0;
            for (int index = 0; index < CODE_LETTERS; index++) {
                if (telegram.receivedAt(word, index) < CODE_ALPHABET) {
                    codeLetters++;
                }
            }
            return at(telegram.lengths, word) == CODE_LETTERS && codeLetters >= CODE_LETTERS - 1;
        }

        private void receiveCode(State state, int word) {
            int nearEntries = 0;
            for (int index = 0; index < state.book.size && how != WELL_CODE; index++) {
                int unlike = unlikeLetters(state.telegram, word, state.book.codeOf(index));
                if (unlike == 0) {
                    how = WELL_CODE;
                    entry = index;
                } else if (unlike == 1) {
                    nearEntries++;
                    entry = index;
                }
            }
            if (how != WELL_CODE && nearEntries == 1) {
                how = MENDED_CODE;
                place = lastUnlike(state.telegram, word, state.book.codeOf(entry));
            }
            if (how == WRONG) {
                entry = NONE;
            } else {
                int first = at(state.telegram.firsts, word);
                asSent = state.book.means(entry, state.telegram.message, first, at(state.telegram.spans, word));
            }
        }

        private static int unlikeLetters(Telegram telegram, int word, int code) {
            int unlike = 0;
            for (int index = 0; index < CODE_LETTERS; index++) {
                if (telegram.receivedAt(word, index) != codeLetterOf(code, index)) {
                    unlike++;
                }
            }
            return unlike;
        }

        private static int lastUnlike(Telegram telegram, int word, int code) {
            int last = NONE;
            for (int index = 0; index < CODE_LETTERS; index++) {
                if (telegram.receivedAt(word, index) != codeLetterOf(code, index)) {
                    last = index;
                }
            }
            return last;
        }

        private void receivePlain(Telegram telegram, int word) {
            int last = at(telegram.lengths, word) - 1;
            long text = 0;
            for (int index = 0; index < last; index++) {
                int plain = telegram.receivedAt(word, index) - CODE_ALPHABET;
                if (plain < 0) {
                    return;
                }
                text = longerWord(text, plain);
            }
            if (text != 0 && telegram.receivedAt(word, last) == CODE_ALPHABET + checkLetterOf(text)) {
                how = WELL_PLAIN;
                asSent = at(telegram.spans, word) == 1
                    && telegram.message.wordAt(at(telegram.firsts, word)) == text;
            }
        }
    }
}
