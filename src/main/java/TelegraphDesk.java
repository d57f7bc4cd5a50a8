/**
 * A telegraph office: a message is shortened by the codes of a code book to the fewest groups,
 * counted and paid, and sent over a line that garbles some groups.
 */
public final class TelegraphDesk {
    private static final int TYPES = 10;
    private static final int FIRST_LONG_TYPE = 8;
    private static final int MOST_WORDS = 24;
    private static final int MOST_CODES = 8;
    private static final int SHORTEST_CODE = 2;
    private static final int LONGEST_CODE = 4;
    private static final int COUNTED_IN_BASE = 10;
    private static final int BASE_COST = 20;
    private static final int COST_OF_ONE_MORE = 3;
    private static final int FIRST_QUALITY = 7;
    private static final int BEST_QUALITY = 9;
    private static final int MOST_REPEATS = 3;
    private static final int MOST_UNTIL_GARBLED = 1000;
    private static final int DIGEST_START = 2143;
    private static final int DIGEST_FACTOR = 31;
    private static final int NONE = -1;

    private final CodeBook book;
    private final Message message;
    private final Parting parting;
    private final Parting supposed;
    private final Passage passage;
    private int quality;
    private int sentGroups;
    private int repeats;
    private int lost;
    private int earned;

    /** Creates an office without codes, with an empty message. */
    public TelegraphDesk() {
        book = new CodeBook();
        message = new Message();
        parting = new Parting();
        supposed = new Parting();
        passage = new Passage();
        quality = FIRST_QUALITY;
    }

    // ---- the code book

    /** Adds a code for two to four words, -1 standing for no third or fourth one; returns its number. */
    public int addCode(int first, int second, int third, int fourth)
            throws IllegalArgumentException, IllegalStateException {
        if (!isType(first) || !isType(second)) {
            throw new IllegalArgumentException("first and second are 0 to 9");
        }
        if (!isTypeOrNone(third) || !isTypeOrNone(fourth)) {
            throw new IllegalArgumentException("third and fourth are -1 or 0 to 9");
        }
        if (third == NONE && fourth != NONE) {
            throw new IllegalArgumentException("no fourth word without a third one");
        }
        if (book.isFull()) {
            throw new IllegalStateException("the code book is full");
        }
        if (book.holds(first, second, third, fourth)) {
            throw new IllegalStateException("another code stands for these words");
        }
        book.append(first, second, third, fourth);
        shorten();
        return book.size() - 1;
    }

    /** Drops a code; returns for how many words it stood. */
    public int dropCode(int code) throws IndexOutOfBoundsException {
        if (!book.has(code)) {
            throw new IndexOutOfBoundsException("no such code");
        }
        int length = book.wordsIn(code);
        book.remove(code);
        shorten();
        return length;
    }

    /** Returns how many codes there are. */
    public int codes() {
        return book.size();
    }

    /** Returns for how many words a code stands. */
    public int lengthOf(int code) throws IndexOutOfBoundsException {
        if (!book.has(code)) {
            throw new IndexOutOfBoundsException("no such code");
        }
        return book.wordsIn(code);
    }

    // ---- the message

    /** Writes a word behind the others; returns how many there are then. */
    public int write(int type) throws IllegalArgumentException, IllegalStateException {
        if (!isType(type)) {
            throw new IllegalArgumentException("a type is 0 to 9");
        }
        if (message.isFull()) {
            throw new IllegalStateException("the message is full");
        }
        message.append(type);
        shorten();
        return message.size();
    }

    /** Takes the last word out; returns its type. */
    public int strike() throws IllegalStateException {
        if (message.size() == 0) {
            throw new IllegalStateException("the message has no words");
        }
        int type = message.typeAt(message.size() - 1);
        message.removeLast();
        shorten();
        return type;
    }

    /** Empties the message; returns how many words it had. */
    public int clear() {
        int had = message.size();
        message.removeAll();
        shorten();
        return had;
    }

    /** Returns how many words the message has. */
    public int words() {
        return message.size();
    }

    /** Returns the type of a word of the message. */
    public int typeOf(int word) throws IndexOutOfBoundsException {
        if (!message.has(word)) {
            throw new IndexOutOfBoundsException("no such word");
        }
        return message.typeAt(word);
    }

    // ---- groups

    /** Returns how many groups the message is shortened to. */
    public int groups() {
        return parting.size();
    }

    /** Returns the code of a group; -1 if it is a word. */
    public int codeOf(int group) throws IndexOutOfBoundsException {
        if (!parting.has(group)) {
            throw new IndexOutOfBoundsException("no such group");
        }
        return parting.codeAt(group);
    }

    /** Returns the number of a group's first word. */
    public int startOf(int group) throws IndexOutOfBoundsException {
        if (!parting.has(group)) {
            throw new IndexOutOfBoundsException("no such group");
        }
        return parting.startAt(group);
    }

    /** Returns how many groups are this code. */
    public int usesOf(int code) throws IndexOutOfBoundsException {
        if (!book.has(code)) {
            throw new IndexOutOfBoundsException("no such code");
        }
        return parting.groupsWith(code);
    }

    /** Returns how many the groups are, as they are counted. */
    public int counted() {
        int sum = 0;
        for (int group = 0; group < parting.size(); group++) {
            boolean isWord = parting.codeAt(group) == NONE;
            sum += isWord ? message.countOf(parting.startAt(group)) : 1;
        }
        return sum;
    }

    /** Returns what the message costs. */
    public int cost() {
        return costOf(counted());
    }

    /** Returns how much less the message costs than it would without codes. */
    public int saved() {
        return costOf(message.countOfAll()) - cost();
    }

    // ---- the line

    /** Sets the line's quality; returns the one before. */
    public int setQuality(int quality) throws IllegalArgumentException {
        if (quality < 1 || quality > BEST_QUALITY) {
            throw new IllegalArgumentException("a quality is 1 to 9");
        }
        int before = this.quality;
        this.quality = quality;
        return before;
    }

    /** Sends the message, and empties it; returns how many groups are lost. */
    public int send() throws IllegalStateException {
        if (message.size() == 0) {
            throw new IllegalStateException("the message has no words");
        }
        earned += cost();
        passage.run(parting.size(), sentGroups, quality);
        sentGroups = passage.sentAtEnd();
        repeats += passage.repeatsAsked();
        lost += passage.groupsLost();
        message.removeAll();
        shorten();
        return passage.groupsLost();
    }

    /** Returns how many groups went over the line, repeats as well. */
    public int sentGroups() {
        return sentGroups;
    }

    /** Returns how many repeats were asked. */
    public int repeats() {
        return repeats;
    }

    /** Returns how many groups were lost. */
    public int lost() {
        return lost;
    }

    /** Returns what all messages that were sent cost. */
    public int earned() {
        return earned;
    }

    /** Returns how many groups go over the line until one is garbled, that one as well. */
    public int untilGarbled() {
        int count = 1;
        // Of any ten counts with the same n / 10, one is garbled; the bound is never reached.
        while (count < MOST_UNTIL_GARBLED && !isGarbled(sentGroups + count, quality)) {
            count++;
        }
        return count;
    }

    // ---- what would be

    /** Returns how many groups would be garbled the first time, if the message was sent now. */
    public int wouldBeGarbled() {
        passage.run(parting.size(), sentGroups, quality);
        return passage.garbledAtFirst();
    }

    /** Returns how many repeats would be asked, if the message was sent now. */
    public int repeatsIfSent() {
        passage.run(parting.size(), sentGroups, quality);
        return passage.repeatsAsked();
    }

    /** Returns the least quality with which no group would be lost now; -1 if there is none. */
    public int qualityWanted() {
        for (int wanted = 1; wanted <= BEST_QUALITY; wanted++) {
            passage.run(parting.size(), sentGroups, wanted);
            if (passage.groupsLost() == 0) {
                return wanted;
            }
        }
        return NONE;
    }

    /** Returns the first code without which the message would have no more groups; -1 if there is none. */
    public int uselessCode() {
        for (int code = 0; code < book.size(); code++) {
            supposed.partWithout(message, book, code);
            if (supposed.size() <= parting.size()) {
                return code;
            }
        }
        return NONE;
    }

    /** Returns the first of that many words for which a code more would bring the fewest groups; -1 if none. */
    public int bestNewCode(int length) throws IllegalArgumentException {
        if (length < SHORTEST_CODE || length > LONGEST_CODE) {
            throw new IllegalArgumentException("a code stands for 2 to 4 words");
        }
        return bestStart(length);
    }

    /** Returns the mean length of codes; 0 without any. */
    public double meanLength() {
        if (book.size() == 0) {
            return 0;
        }
        int sum = 0;
        for (int code = 0; code < book.size(); code++) {
            sum += book.wordsIn(code);
        }
        return (double) sum / book.size();
    }

    /** Computes a checksum of all that can be asked. */
    public long digest() {
        long sum = DIGEST_START;
        sum = withNumber(sum, codes());
        sum = withNumber(sum, words());
        sum = withNumber(sum, groups());
        sum = withNumber(sum, counted());
        sum = withNumber(sum, cost());
        sum = withNumber(sum, saved());
        sum = withNumber(sum, sentGroups());
        sum = withNumber(sum, repeats());
        sum = withNumber(sum, lost());
        sum = withNumber(sum, earned());
        sum = withNumber(sum, untilGarbled());
        sum = withNumber(sum, wouldBeGarbled());
        sum = withNumber(sum, repeatsIfSent());
        sum = withNumber(sum, qualityWanted());
        sum = withNumber(sum, uselessCode());
        for (int length = SHORTEST_CODE; length <= LONGEST_CODE; length++) {
            sum = withNumber(sum, bestStart(length));
        }
        return withGroups(withWords(withCodes(sum)));
    }

    private long withCodes(long sum) {
        long result = sum;
        for (int code = 0; code < book.size(); code++) {
            result = withNumber(result, book.wordsIn(code));
            result = withNumber(result, parting.groupsWith(code));
        }
        return result;
    }

    private long withWords(long sum) {
        long result = sum;
        for (int word = 0; word < message.size(); word++) {
            result = withNumber(result, message.typeAt(word));
        }
        return result;
    }

    private long withGroups(long sum) {
        long result = sum;
        for (int group = 0; group < parting.size(); group++) {
            result = withNumber(result, parting.codeAt(group));
            result = withNumber(result, parting.startAt(group));
        }
        return result;
    }

    private static long withNumber(long sum, long number) {
        return sum * DIGEST_FACTOR + number;
    }

    private int bestStart(int length) {
        int best = NONE;
        int fewest = 0;
        for (int start = 0; start + length <= message.size(); start++) {
            supposed.partWithNew(message, book, start, length);
            if (best == NONE || supposed.size() < fewest) {
                best = start;
                fewest = supposed.size();
            }
        }
        return best;
    }

    private int costOf(int counted) {
        if (message.size() == 0) {
            return 0;
        }
        return BASE_COST + COST_OF_ONE_MORE * Math.max(0, counted - COUNTED_IN_BASE);
    }

    private void shorten() {
        parting.partAsIs(message, book);
    }

    private static boolean isType(int type) {
        return type >= 0 && type < TYPES;
    }

    private static boolean isTypeOrNone(int type) {
        return type == NONE || isType(type);
    }

    private static boolean isGarbled(int count, int quality) {
        return (count * 7 + count / 10) % 10 >= quality;
    }

    /** The codes: each has LONGEST_CODE places for the types of its words, NONE behind the last one. */
    private static final class CodeBook {
        private final int[] types;
        private final int[] lengths;
        private int count;

        CodeBook() {
            types = new int[MOST_CODES * LONGEST_CODE];
            lengths = new int[MOST_CODES];
        }

        int size() {
            return count;
        }

        boolean isFull() {
            return count >= MOST_CODES;
        }

        boolean has(int code) {
            return code >= 0 && code < count;
        }

        int typeIn(int code, int place) {
            if (!has(code) || place < 0 || place >= LONGEST_CODE) {
                return NONE;
            }
            return types[code * LONGEST_CODE + place];
        }

        int wordsIn(int code) {
            return has(code) ? lengths[code] : 0;
        }

        boolean holds(int first, int second, int third, int fourth) {
            for (int code = 0; code < count; code++) {
                if (typeIn(code, 0) == first && typeIn(code, 1) == second
                        && typeIn(code, 2) == third && typeIn(code, 3) == fourth) {
                    return true;
                }
            }
            return false;
        }

        void append(int first, int second, int third, int fourth) {
            if (isFull()) {
                return;
            }
            int at = count * LONGEST_CODE;
            types[at] = first;
            types[at + 1] = second;
            types[at + 2] = third;
            types[at + 3] = fourth;
            lengths[count] = LONGEST_CODE;
            if (fourth == NONE) {
                lengths[count] = third == NONE ? SHORTEST_CODE : LONGEST_CODE - 1;
            }
            count++;
        }

        void remove(int code) {
            if (!has(code)) {
                return;
            }
            int behind = count - code - 1;
            System.arraycopy(types, (code + 1) * LONGEST_CODE, types, code * LONGEST_CODE, behind * LONGEST_CODE);
            System.arraycopy(lengths, code + 1, lengths, code, behind);
            count--;
        }
    }

    /** The words of a message, by their types. */
    private static final class Message {
        private final int[] types;
        private int count;

        Message() {
            types = new int[MOST_WORDS];
        }

        int size() {
            return count;
        }

        boolean isFull() {
            return count >= MOST_WORDS;
        }

        boolean has(int word) {
            return word >= 0 && word < count;
        }

        int typeAt(int word) {
            return has(word) ? types[word] : NONE;
        }

        int countOf(int word) {
            return typeAt(word) >= FIRST_LONG_TYPE ? 2 : 1;
        }

        int countOfAll() {
            int sum = 0;
            for (int word = 0; word < count; word++) {
                sum += countOf(word);
            }
            return sum;
        }

        boolean hasSameWords(int start, int other, int length) {
            if (!has(start + length - 1) || !has(other + length - 1)) {
                return false;
            }
            for (int place = 0; place < length; place++) {
                if (typeAt(start + place) != typeAt(other + place)) {
                    return false;
                }
            }
            return true;
        }

        boolean hasWordsOf(CodeBook book, int code, int start) {
            int length = book.wordsIn(code);
            if (length == 0 || !has(start + length - 1)) {
                return false;
            }
            for (int place = 0; place < length; place++) {
                if (typeAt(start + place) != book.typeIn(code, place)) {
                    return false;
                }
            }
            return true;
        }

        void append(int type) {
            if (isFull()) {
                return;
            }
            types[count] = type;
            count++;
        }

        void removeLast() {
            count = Math.max(0, count - 1);
        }

        void removeAll() {
            count = 0;
        }
    }

    /** How a message is parted into the fewest groups, by a code book or by one that is supposed. */
    private static final class Parting {
        // By words, for the words from this one on: how few groups they make, and the first of these.
        private final int[] fewest;
        private final int[] lengths;
        private final int[] codes;
        private final int[] starts;
        private int count;

        Parting() {
            fewest = new int[MOST_WORDS + 1];
            lengths = new int[MOST_WORDS];
            codes = new int[MOST_WORDS];
            starts = new int[MOST_WORDS];
        }

        int size() {
            return count;
        }

        boolean has(int group) {
            return group >= 0 && group < count;
        }

        int startAt(int group) {
            return has(group) ? starts[group] : NONE;
        }

        int codeAt(int group) {
            int start = startAt(group);
            return start >= 0 && start < MOST_WORDS ? codes[start] : NONE;
        }

        int groupsWith(int code) {
            int uses = 0;
            for (int group = 0; group < count; group++) {
                if (codeAt(group) == code) {
                    uses++;
                }
            }
            return uses;
        }

        void partAsIs(Message message, CodeBook book) {
            part(message, book, NONE, 0, 0);
        }

        void partWithout(Message message, CodeBook book, int code) {
            part(message, book, code, 0, 0);
        }

        /** Parts as if a code more stood for the words of the message from a start on. */
        void partWithNew(Message message, CodeBook book, int start, int length) {
            part(message, book, NONE, start, length);
        }

        // From the last word to the first, so that the longest first group with which the words
        // behind it make the fewest groups is also the one that the document takes.
        private void part(Message message, CodeBook book, int without, int newStart, int newLength) {
            int end = Math.min(message.size(), MOST_WORDS);
            fewest[end] = 0;
            for (int word = end - 1; word >= 0; word--) {
                takeWord(word);
                for (int code = 0; code < book.size(); code++) {
                    if (code != without && message.hasWordsOf(book, code, word)) {
                        takeIfBetter(word, book.wordsIn(code), code);
                    }
                }
                if (newLength > 0 && message.hasSameWords(newStart, word, newLength)) {
                    takeIfBetter(word, newLength, MOST_CODES);
                }
            }
            listStarts(end);
        }

        private void takeWord(int word) {
            fewest[word] = fewest[word + 1] + 1;
            lengths[word] = 1;
            codes[word] = NONE;
        }

        private void takeIfBetter(int word, int length, int code) {
            if (word + length > MOST_WORDS) {
                return;
            }
            int total = fewest[word + length] + 1;
            if (total < fewest[word] || (total == fewest[word] && length > lengths[word])) {
                fewest[word] = total;
                lengths[word] = length;
                codes[word] = code;
            }
        }

        private void listStarts(int end) {
            count = 0;
            int word = 0;
            while (word < end && count < MOST_WORDS) {
                starts[count] = word;
                count++;
                word += lengths[word];
            }
        }
    }

    /** What comes of it when groups go over the line; the line itself stays as it is. */
    private static final class Passage {
        private int sent;
        private int garbledFirst;
        private int asked;
        private int gone;

        void run(int groups, int sentBefore, int quality) {
            sent = sentBefore;
            garbledFirst = 0;
            asked = 0;
            gone = 0;
            for (int group = 0; group < groups; group++) {
                pass(quality);
            }
        }

        int sentAtEnd() {
            return sent;
        }

        int garbledAtFirst() {
            return garbledFirst;
        }

        int repeatsAsked() {
            return asked;
        }

        int groupsLost() {
            return gone;
        }

        private void pass(int quality) {
            boolean garbled = isNextGarbled(quality);
            if (garbled) {
                garbledFirst++;
            }
            int repeat = 0;
            while (garbled && repeat < MOST_REPEATS) {
                repeat++;
                garbled = isNextGarbled(quality);
            }
            asked += repeat;
            if (garbled) {
                gone++;
            }
        }

        private boolean isNextGarbled(int quality) {
            sent++;
            return isGarbled(sent, quality);
        }
    }
}
