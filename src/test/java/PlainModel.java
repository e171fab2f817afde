import java.util.ArrayList;
import java.util.List;

/**
 * The document once more, as slowly and plainly as it can be said: texts for words, and every way to send a message
 * tried. It shares nothing with the program but the numbers of its errors.
 */
final class PlainModel {
    private record Entry(String phrase, String code) { }

    private record Sent(String text, int words, boolean asCode, String letters, int cost) { }

    /** Everything that is undone and saved; never changed once it is made. */
    private record State(List<Integer> settings, List<Entry> book, List<String> message, List<Sent> sent,
            List<String> received) { }

    private State now = new State(List.of(10, 8, 3), List.of(), List.of(), List.of(), List.of());
    private final List<State> history = new ArrayList<>();
    private final State[] slots = new State[2];
    private String pad = "";

    private static final int NO_SUCH = -1, BAD_VALUE = -2, BAD_TEXT = -3, TOO_MANY = -4, NOT_POSSIBLE = -5, NONE = -6;

    private void change(State next) {
        history.add(now);
        if (history.size() > 6) {
            history.remove(0);
        }
        now = next;
    }

    private State withBook(List<Entry> book) {
        return new State(now.settings, book, now.message, now.sent, now.received);
    }

    private boolean noEntry(int entry) {
        return entry < 0 || entry >= now.book.size();
    }

    private boolean noWord(int word) {
        return word < 0 || word >= now.sent.size();
    }

    private static String codeText(int code) {
        StringBuilder text = new StringBuilder(Integer.toString(code, 6));
        while (text.length() < 4) {
            text.insert(0, '0');
        }
        for (int i = 0; i < 4; i++) {
            text.setCharAt(i, (char) (text.charAt(i) - '0' + 'a'));
        }
        return text.toString();
    }

    private static int codeNumber(String code) {
        int number = 0;
        for (char c : code.toCharArray()) {
            number = number * 6 + c - 'a';
        }
        return number;
    }

    private static int unlike(String one, String other) {
        int unlike = 0;
        for (int i = 0; i < 4; i++) {
            unlike += one.charAt(i) == other.charAt(i) ? 0 : 1;
        }
        return unlike;
    }

    private static boolean far(String code, List<String> others, int apart) {
        for (String other : others) {
            if (unlike(code, other) < apart) {
                return false;
            }
        }
        return true;
    }

    private List<String> codes() {
        List<String> codes = new ArrayList<>();
        for (Entry entry : now.book) {
            codes.add(entry.code);
        }
        return codes;
    }

    private boolean isPhrase(String text) {
        for (Entry entry : now.book) {
            if (entry.phrase.equals(text)) {
                return true;
            }
        }
        return false;
    }

    private static char check(String word) {
        int sum = 0;
        for (char c : word.toCharArray()) {
            sum += c - 'g';
        }
        return (char) ('g' + sum % 20);
    }

    private int plainCost(String word) {
        return now.settings.get(0) * (int) Math.ceil(word.length() / (double) now.settings.get(1));
    }

    private int plainCostOfAll(List<String> words) {
        int cost = 0;
        for (String word : words) {
            cost += plainCost(word);
        }
        return cost;
    }

    private static int costOfAll(List<Sent> way) {
        int cost = 0;
        for (Sent sent : way) {
            cost += sent.cost;
        }
        return cost;
    }

    private static boolean better(List<Sent> way, List<Sent> other) {
        if (costOfAll(way) != costOfAll(other)) {
            return costOfAll(way) < costOfAll(other);
        }
        if (way.size() != other.size()) {
            return way.size() < other.size();
        }
        for (int i = 0; i < way.size(); i++) {
            if (way.get(i).words != other.get(i).words) {
                return way.get(i).words > other.get(i).words;
            }
        }
        for (int i = 0; i < way.size(); i++) {
            if (way.get(i).asCode != other.get(i).asCode) {
                return way.get(i).asCode;
            }
        }
        return false;
    }

    private List<Sent> best;

    /** Tries every way; only those whose cost is already above the best one's are left early. */
    private void tryWays(List<String> message, int first, List<Entry> book, List<Sent> way) {
        if (best != null && costOfAll(way) > costOfAll(best)) {
            return;
        }
        if (first == message.size()) {
            if (best == null || better(way, best)) {
                best = new ArrayList<>(way);
            }
            return;
        }
        for (int words = 3; words >= 1; words--) {
            if (first + words > message.size()) {
                continue;
            }
            String text = String.join("/", message.subList(first, first + words));
            for (Entry entry : book) {
                if (entry.phrase.equals(text)) {
                    way.add(new Sent(text, words, true, entry.code, now.settings.get(0)));
                    tryWays(message, first + words, book, way);
                    way.remove(way.size() - 1);
                }
            }
            if (words == 1) {
                way.add(new Sent(text, 1, false, text + check(text), plainCost(text)));
                tryWays(message, first + 1, book, way);
                way.remove(way.size() - 1);
            }
        }
    }

    private List<Sent> bestWay(List<String> message, List<Entry> book) {
        best = null;
        tryWays(message, 0, book, new ArrayList<>());
        return best;
    }

    private List<String> padWords() {
        return List.of(pad.split("/"));
    }

    int set(int setting, int value) {
        int[][] ranges = {{1, 99}, {2, 15}, {1, 4}};
        if (setting < 0 || setting > 2 || value < ranges[setting][0] || value > ranges[setting][1]) {
            return BAD_VALUE;
        }
        int previous = now.settings.get(setting);
        List<Integer> settings = new ArrayList<>(now.settings);
        settings.set(setting, value);
        change(new State(settings, now.book, now.message, now.sent, now.received));
        return previous;
    }

    int enter() {
        if (fault() != NONE || padWords().size() > 3) {
            return BAD_TEXT;
        }
        if (now.book.size() == 16) {
            return TOO_MANY;
        }
        if (isPhrase(pad)) {
            return NOT_POSSIBLE;
        }
        for (int code = 0; code < 1296; code++) {
            if (far(codeText(code), codes(), now.settings.get(2))) {
                List<Entry> book = new ArrayList<>(now.book);
                book.add(new Entry(pad, codeText(code)));
                change(withBook(book));
                pad = "";
                return code;
            }
        }
        return NOT_POSSIBLE;
    }

    int recode(int entry, int code) {
        if (noEntry(entry)) {
            return NO_SUCH;
        }
        if (code < 0 || code > 1295) {
            return BAD_VALUE;
        }
        List<String> others = codes();
        others.remove(entry);
        if (!far(codeText(code), others, now.settings.get(2))) {
            return NOT_POSSIBLE;
        }
        List<Entry> book = new ArrayList<>(now.book);
        Entry previous = book.set(entry, new Entry(book.get(entry).phrase, codeText(code)));
        change(withBook(book));
        return codeNumber(previous.code);
    }

    int drop(int entry) {
        if (noEntry(entry)) {
            return NO_SUCH;
        }
        List<Entry> book = new ArrayList<>(now.book);
        book.remove(entry);
        change(withBook(book));
        return book.size();
    }

    private int sendMessage(List<String> message) {
        List<Sent> sent = bestWay(message, now.book);
        List<String> received = new ArrayList<>();
        for (Sent word : sent) {
            received.add(word.letters);
        }
        change(new State(now.settings, now.book, message, sent, received));
        return costOfAll(sent);
    }

    int send() {
        if (fault() != NONE) {
            return BAD_TEXT;
        }
        List<String> message = padWords();
        pad = "";
        return sendMessage(message);
    }

    int sendAgain() {
        return now.message.isEmpty() ? NOT_POSSIBLE : sendMessage(now.message);
    }

    int garble(int word, int place, int letter) {
        if (noWord(word) || place < 0 || place >= now.received.get(word).length()) {
            return NO_SUCH;
        }
        if (letter < 0 || letter > 25) {
            return BAD_VALUE;
        }
        StringBuilder text = new StringBuilder(now.received.get(word));
        int previous = text.charAt(place) - 'a';
        text.setCharAt(place, (char) ('a' + letter));
        List<String> received = new ArrayList<>(now.received);
        received.set(word, text.toString());
        change(new State(now.settings, now.book, now.message, now.sent, received));
        return previous;
    }

    int entry(int entry, int what) {
        if (noEntry(entry)) {
            return NO_SUCH;
        }
        Entry it = now.book.get(entry);
        List<String> words = List.of(it.phrase.split("/"));
        switch (what) {
            case 0: return codeNumber(it.code);
            case 1: return words.size();
            case 2: return it.phrase.replace("/", "").length();
            case 3:
                int least = 5;
                for (int other = 0; other < now.book.size(); other++) {
                    least = other == entry ? least : Math.min(least, unlike(it.code, now.book.get(other).code));
                }
                return least == 5 ? NONE : least;
            case 4: return plainCostOfAll(words) - now.settings.get(0) + 10000;
            case 5:
                int times = 0;
                for (Sent sent : now.sent) {
                    times += sent.asCode && sent.text.equals(it.phrase) ? 1 : 0;
                }
                return times;
            default: return BAD_VALUE;
        }
    }

    int phraseSign(int entry, int place) {
        if (noEntry(entry) || place < 0 || place >= now.book.get(entry).phrase.length()) {
            return NO_SUCH;
        }
        return now.book.get(entry).phrase.charAt(place);
    }

    int count(int what) {
        switch (what) {
            case 0: return now.book.size();
            case 1: return now.message.size();
            case 2: return now.sent.size();
            case 3: return costOfAll(now.sent);
            case 4: return plainCostOfAll(now.message);
            case 5:
                int least = NONE;
                for (int entry = 0; entry < now.book.size() && now.book.size() > 1; entry++) {
                    least = least == NONE ? entry(entry, 3) : Math.min(least, entry(entry, 3));
                }
                return least;
            case 6: return now.settings.get(0);
            case 7: return now.settings.get(1);
            case 8: return now.settings.get(2);
            case 9:
                int garbled = 0;
                for (int word = 0; word < now.sent.size(); word++) {
                    for (int place = 0; place < now.received.get(word).length(); place++) {
                        char sent = now.sent.get(word).letters.charAt(place);
                        garbled += now.received.get(word).charAt(place) == sent ? 0 : 1;
                    }
                }
                return garbled;
            case 10: return pad.length();
            case 11: return history.size();
            default: return BAD_VALUE;
        }
    }

    int letter(int word, int place) {
        if (noWord(word)) {
            return NO_SUCH;
        }
        if (place < 0) {
            return BAD_VALUE;
        }
        return place < now.received.get(word).length() ? now.received.get(word).charAt(place) - 'a' : NONE;
    }

    /** How, the entry, the place, and whether the text is the one that was sent. */
    private int[] reception(int word) {
        String letters = now.received.get(word);
        String sent = now.sent.get(word).text;
        if (letters.length() == 4 && letters.replaceAll("[g-z]", "").length() >= 3) {
            List<Integer> near = new ArrayList<>();
            for (int entry = 0; entry < now.book.size(); entry++) {
                int unlike = unlike(letters, now.book.get(entry).code);
                if (unlike == 0) {
                    return new int[] {0, entry, NONE, now.book.get(entry).phrase.equals(sent) ? 1 : 0};
                }
                if (unlike == 1) {
                    near.add(entry);
                }
            }
            if (near.size() != 1) {
                return new int[] {3, NONE, NONE, 0};
            }
            Entry entry = now.book.get(near.get(0));
            int place = 0;
            while (letters.charAt(place) == entry.code.charAt(place)) {
                place++;
            }
            return new int[] {1, near.get(0), place, entry.phrase.equals(sent) ? 1 : 0};
        }
        String text = letters.substring(0, letters.length() - 1);
        if (letters.matches("[g-z]{2,}") && letters.charAt(letters.length() - 1) == check(text)) {
            return new int[] {2, NONE, NONE, text.equals(sent) ? 1 : 0};
        }
        return new int[] {3, NONE, NONE, 0};
    }

    int received(int word, int what) {
        if (noWord(word)) {
            return NO_SUCH;
        }
        if (what < 0 || what > 5) {
            return BAD_VALUE;
        }
        int[] reception = reception(word);
        Sent sent = now.sent.get(word);
        return new int[] {reception[0], reception[1], reception[2], sent.words, reception[3], sent.cost}[what];
    }

    int receivedSo(int how) {
        if (how < 0 || how > 4) {
            return BAD_VALUE;
        }
        int words = 0;
        for (int word = 0; word < now.sent.size(); word++) {
            int[] reception = reception(word);
            words += reception[0] == how || how == 4 && reception[0] != 3 && reception[3] == 0 ? 1 : 0;
        }
        return words;
    }

    int costOf() {
        return fault() != NONE ? BAD_TEXT : costOfAll(bestWay(padWords(), now.book));
    }

    int saves(int entry) {
        if (noEntry(entry)) {
            return NO_SUCH;
        }
        if (now.message.isEmpty()) {
            return NOT_POSSIBLE;
        }
        List<Entry> without = new ArrayList<>(now.book);
        without.remove(entry);
        return costOfAll(bestWay(now.message, without)) - costOfAll(bestWay(now.message, now.book));
    }

    int bestPhrase(int what) {
        if (what < 0 || what > 2) {
            return BAD_VALUE;
        }
        int[] found = null;
        for (int words = 1; words <= 3; words++) {
            for (int first = 0; first + words <= now.message.size(); first++) {
                String phrase = String.join("/", now.message.subList(first, first + words));
                if (!isPhrase(phrase)) {
                    List<Entry> more = new ArrayList<>(now.book);
                    more.add(new Entry(phrase, "any"));
                    int cost = costOfAll(bestWay(now.message, more));
                    if (found == null || cost < found[2]) {
                        found = new int[] {first, words, cost};
                    }
                }
            }
        }
        return found == null ? NONE : found[what];
    }

    int left() {
        List<String> taken = codes();
        for (int code = 0; code < 1296; code++) {
            if (far(codeText(code), taken, now.settings.get(2))) {
                taken.add(codeText(code));
            }
        }
        return taken.size() - now.book.size();
    }

    int distance(int code, int other) {
        if (code < 0 || code > 1295 || other < 0 || other > 1295) {
            return BAD_VALUE;
        }
        return unlike(codeText(code), codeText(other));
    }

    int put(long characters) {
        StringBuilder text = new StringBuilder();
        boolean ended = false;
        for (int i = 0; i < 8; i++) {
            int sign = (int) (characters >>> 8 * i & 255);
            if (sign == 0) {
                ended = true;
            } else if (ended || sign < 33 || sign > 126) {
                return BAD_VALUE;
            } else {
                text.insert(0, (char) sign);
            }
        }
        if (text.length() == 0) {
            return BAD_VALUE;
        }
        if (pad.length() + text.length() > 80) {
            return TOO_MANY;
        }
        pad += text;
        return pad.length();
    }

    int wipe() {
        int length = pad.length();
        pad = "";
        return length;
    }

    /** The end of the longest beginning that a message could have. */
    int fault() {
        String beginning = "([g-z]{1,12}/){0,11}[g-z]{0,12}";
        for (int end = 1; end <= pad.length(); end++) {
            if (!pad.substring(0, end).matches(beginning)) {
                return end - 1;
            }
        }
        return pad.isEmpty() || pad.endsWith("/") ? pad.length() : NONE;
    }

    int undo() {
        if (history.isEmpty()) {
            return NOT_POSSIBLE;
        }
        now = history.remove(history.size() - 1);
        return history.size();
    }

    int save(int slot) {
        if (slot < 0 || slot > 1) {
            return BAD_VALUE;
        }
        slots[slot] = now;
        return now.book.size();
    }

    int restore(int slot) {
        if (slot < 0 || slot > 1) {
            return BAD_VALUE;
        }
        if (slots[slot] == null) {
            return NOT_POSSIBLE;
        }
        change(slots[slot]);
        return now.book.size();
    }
}
