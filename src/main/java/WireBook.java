import java.util.Arrays;

/** Books for telegrams. */
public final class WireBook {
    private static final int NONE = -1;

    private static final int BOOKS = 3;
    private static final int LINE_MOST = 40;
    private static final int KEPT_MOST = 12;
    private static final int ENTRIES_MOST = 40;
    private static final int PHRASE_MOST = 6;
    private static final int SAVING_PHRASE_LEAST = 2;
    private static final int SAVING_TIMES_LEAST = 2;

    private static final int WORD_LAST = 9999;
    private static final int DIGITS = 10;
    private static final int DIGITS_OF_WORD = 4;
    private static final int LETTERS = 26;
    private static final int PLACES = 5;
    private static final int CODE_LAST = 11881375;
    private static final int FIT_REACH = 2000;

    private static final int FITS = 0;
    private static final int FULL = 1;
    private static final int SAME = 2;
    private static final int ONE_LETTER = 3;
    private static final int SWAPPED = 4;

    private static final int READ_PLAIN = 0;
    private static final int READ_EXACT = 1;
    private static final int READ_GARBLED = 2;
    private static final int READ_LOST = 3;

    private static final int PRICE_FIRST = 2;
    private static final int PRICE_MOST = 5;
    private static final int SIGN_GAP = 3;
    private static final int GROUP_GAP = 7;
    private static final int[] LETTER_UNITS = {
        5, 9, 11, 7, 1, 9, 9, 7, 3, 13, 9, 9, 7, 5, 11, 11, 13, 7, 5, 3, 7, 9, 9, 11, 13, 11
    };
    private static final int[] DIGIT_UNITS = {19, 17, 15, 13, 11, 9, 11, 13, 15, 17};

    private static final long DIGEST_START = 379;
    private static final long DIGEST_FACTOR = 31;

    private final Book[] books;
    private final Line line;
    private final Kept kept;
    private final Message message;
    private final Division division;
    private final int[] readings;
    private int readGroups;
    private int price;

    public WireBook() {
        books = new Book[BOOKS];
        for (int book = 0; book < BOOKS; book++) {
            books[book] = new Book();
        }
        line = new Line();
        kept = new Kept();
        message = new Message();
        division = new Division();
        readings = new int[LINE_MOST];
        price = PRICE_FIRST;
    }

    // ---- lines

    public int say(int word) throws IllegalArgumentException, IllegalStateException {
        if (word < 0 || word > WORD_LAST) {
            throw new IllegalArgumentException("a plain word is 0 to 9999");
        }
        if (line.count >= LINE_MOST) {
            throw new IllegalStateException("the line has 40 words");
        }
        line.append(word);
        return line.count;
    }

    public int empty() {
        int had = line.count;
        line.clear();
        return had;
    }

    public int words() {
        return line.count;
    }

    public int wordAt(int place) throws IndexOutOfBoundsException {
        if (place < 0 || place >= line.count) {
            throw new IndexOutOfBoundsException("no such place on the line");
        }
        return line.row[place];
    }

    public int keep() throws IllegalStateException {
        if (line.count == 0) {
            throw new IllegalStateException("the line is empty");
        }
        if (kept.count >= KEPT_MOST) {
            throw new IllegalStateException("12 lines are kept");
        }
        kept.add(line);
        line.clear();
        return kept.count;
    }

    public int recall(int kept) throws IndexOutOfBoundsException {
        if (kept < 0 || kept >= this.kept.count) {
            throw new IndexOutOfBoundsException("no such kept line");
        }
        line.clear();
        line.appendAll(this.kept.row, this.kept.startOf(kept), this.kept.sizes[kept]);
        return line.count;
    }

    // ---- books

    public int letter(int code, int place) throws IllegalArgumentException, IndexOutOfBoundsException {
        requireCode(code);
        requirePlace(place, PLACES);
        return Code.letterAt(code, place);
    }

    public int reason(int book, int code) throws IndexOutOfBoundsException, IllegalArgumentException {
        Book asked = requireBook(book);
        requireCode(code);
        return asked.reasonAgainst(code);
    }

    public int firstFit(int book, int from) throws IndexOutOfBoundsException, IllegalArgumentException {
        Book asked = requireBook(book);
        requireCode(from);
        return asked.fitFrom(from);
    }

    public int define(int book, int code)
            throws IndexOutOfBoundsException, IllegalArgumentException, IllegalStateException {
        Book asked = requireBook(book);
        requireCode(code);
        if (asked.reasonAgainst(code) != FITS) {
            throw new IllegalStateException("the code word does not fit");
        }
        if (line.count < 1 || line.count > PHRASE_MOST) {
            throw new IllegalStateException("a phrase has 1 to 6 words");
        }
        asked.add(code, line);
        line.clear();
        return asked.count - 1;
    }

    public int drop(int book, int entry) throws IndexOutOfBoundsException {
        Book asked = requireBook(book);
        requireEntry(asked, entry);
        asked.remove(entry);
        return asked.count;
    }

    public int entries(int book) throws IndexOutOfBoundsException {
        return requireBook(book).count;
    }

    public int entry(int book, int entry, int what) throws IndexOutOfBoundsException {
        Book asked = requireBook(book);
        requireEntry(asked, entry);
        if (what == NONE) {
            return asked.codes[entry];
        }
        if (what < 0 || what >= asked.sizes[entry]) {
            throw new IndexOutOfBoundsException("no such word in the phrase");
        }
        return asked.phrases[Book.startOf(entry) + what];
    }

    public int find(int book, int code) throws IndexOutOfBoundsException, IllegalArgumentException {
        Book asked = requireBook(book);
        requireCode(code);
        return asked.entryWith(code);
    }

    // ---- messages

    public int setPrice(int price) throws IllegalArgumentException {
        if (price < 1 || price > PRICE_MOST) {
            throw new IllegalArgumentException("a price is 1 to 5");
        }
        int before = this.price;
        this.price = price;
        return before;
    }

    public int encode(int book) throws IndexOutOfBoundsException {
        Book asked = requireBook(book);
        int least = division.divide(asked, price, line.row, 0, line.count);
        message.clear();
        int at = 0;
        for (int groups = 0; groups < LINE_MOST && at < line.count; groups++) {
            int entry = division.pieces[at];
            message.append(entry == NONE ? Message.plain(line.row[at]) : asked.codes[entry]);
            at += entry == NONE ? 1 : asked.sizes[entry];
        }
        return least;
    }

    public int groups() {
        return message.count;
    }

    public int group(int group) throws IndexOutOfBoundsException {
        requireGroup(group);
        return message.row[group];
    }

    public int garble(int group, int place, int letter)
            throws IndexOutOfBoundsException, IllegalArgumentException, IllegalStateException {
        requireGroup(group);
        requirePlace(place, PLACES);
        if (letter < 0 || letter >= LETTERS) {
            throw new IllegalArgumentException("a letter is 0 to 25");
        }
        requireCodeWord(group);
        int code = message.row[group];
        message.row[group] = Code.withLetter(code, place, letter);
        return Code.letterAt(code, place);
    }

    public int swap(int group, int place) throws IndexOutOfBoundsException, IllegalStateException {
        requireGroup(group);
        requirePlace(place, PLACES - 1);
        requireCodeWord(group);
        message.row[group] = Code.swapped(message.row[group], place);
        return message.row[group];
    }

    public int decode(int book) throws IndexOutOfBoundsException {
        Book asked = requireBook(book);
        line.clear();
        readGroups = message.count;
        int lost = 0;
        for (int group = 0; group < readGroups; group++) {
            readings[group] = read(asked, message.row[group]);
            if (readings[group] == READ_LOST) {
                lost++;
            }
        }
        return lost;
    }

    public int how(int group) throws IndexOutOfBoundsException {
        if (group < 0 || group >= readGroups) {
            throw new IndexOutOfBoundsException("no such group was read");
        }
        return readings[group];
    }

    public int cost() {
        return message.costAt(price);
    }

    public int time() {
        return message.units();
    }

    public double share(int book) throws IndexOutOfBoundsException {
        Book asked = requireBook(book);
        int costs = 0;
        int allWords = 0;
        for (int at = 0; at < kept.count; at++) {
            costs += division.divide(asked, price, kept.row, kept.startOf(at), kept.sizes[at]);
            allWords += kept.sizes[at];
        }
        int plainCosts = price * allWords;
        return plainCosts == 0 ? 1.0 : (double) costs / (double) plainCosts;
    }

    // ---- proposals

    public int propose(int book) throws IndexOutOfBoundsException {
        return kept.proposeOn(line, requireBook(book), price);
    }

    public int learn(int book, int most) throws IndexOutOfBoundsException, IllegalArgumentException {
        Book asked = requireBook(book);
        if (most < 1 || most > ENTRIES_MOST) {
            throw new IllegalArgumentException("1 to 40 entries can be learned");
        }
        int added = 0;
        while (added < most && learnOne(asked)) {
            added++;
        }
        line.clear();
        return added;
    }

    public long digest() {
        long sum = mix(DIGEST_START, price);
        sum = mixRow(sum, line.row, 0, line.count);
        for (int book = 0; book < BOOKS; book++) {
            sum = books[book].mixInto(sum);
        }
        sum = mixRow(sum, message.row, 0, message.count);
        return kept.mixInto(sum);
    }

    // ---- what the calls share

    private Book requireBook(int book) {
        if (book < 0 || book >= BOOKS) {
            throw new IndexOutOfBoundsException("no such book");
        }
        return books[book];
    }

    private static void requireCode(int code) {
        if (code < 0 || code > CODE_LAST) {
            throw new IllegalArgumentException("a code word is 0 to 11881375");
        }
    }

    private static void requirePlace(int place, int places) {
        if (place < 0 || place >= places) {
            throw new IndexOutOfBoundsException("no such place in a code word");
        }
    }

    private static void requireEntry(Book book, int entry) {
        if (entry < 0 || entry >= book.count) {
            throw new IndexOutOfBoundsException("no such entry");
        }
    }

    private void requireGroup(int group) {
        if (group < 0 || group >= message.count) {
            throw new IndexOutOfBoundsException("no such group");
        }
    }

    private void requireCodeWord(int group) {
        if (Message.isPlain(message.row[group])) {
            throw new IllegalStateException("the group is a plain word");
        }
    }

    private int read(Book book, int group) {
        if (Message.isPlain(group)) {
            line.append(Message.wordOf(group));
            return READ_PLAIN;
        }
        int reading = READ_EXACT;
        int entry = book.entryWith(group);
        if (entry == NONE) {
            reading = READ_GARBLED;
            entry = book.onlyEntryLike(group);
        }
        if (entry == NONE) {
            return READ_LOST;
        }
        line.appendAll(book.phrases, Book.startOf(entry), book.sizes[entry]);
        return reading;
    }

    private boolean learnOne(Book book) {
        if (kept.proposeOn(line, book, price) == 0) {
            return false;
        }
        int code = book.fitFrom(book.latestCode());
        if (code == NONE) {
            return false;
        }
        book.add(code, line);
        return true;
    }

    private static boolean sameWords(int[] one, int oneStart, int[] other, int otherStart, int size) {
        if (oneStart < 0 || oneStart + size > one.length
                || otherStart < 0 || otherStart + size > other.length) {
            return false;
        }
        for (int at = 0; at < size; at++) {
            if (one[oneStart + at] != other[otherStart + at]) {
                return false;
            }
        }
        return true;
    }

    private static long mix(long sum, int number) {
        return sum * DIGEST_FACTOR + number;
    }

    private static long mixRow(long sum, int[] row, int start, int size) {
        long mixed = mix(sum, size);
        for (int at = start; at < start + size && at < row.length; at++) {
            mixed = mix(mixed, row[at]);
        }
        return mixed;
    }

    /** What can be told of code words by their numbers alone. */
    private static final class Code {
        static int letterAt(int code, int place) {
            int left = code;
            for (int at = PLACES - 1; at > place; at--) {
                left /= LETTERS;
            }
            return left % LETTERS;
        }

        static int withLetter(int code, int place, int letter) {
            int weight = 1;
            for (int at = PLACES - 1; at > place; at--) {
                weight *= LETTERS;
            }
            return code + (letter - letterAt(code, place)) * weight;
        }

        static int swapped(int code, int place) {
            int first = letterAt(code, place);
            int second = letterAt(code, place + 1);
            return withLetter(withLetter(code, place, second), place + 1, first);
        }

        /** Answers SAME, ONE_LETTER or SWAPPED, numbered as the reasons are; FITS if they are unlike. */
        static int likeness(int one, int other) {
            if (one == other) {
                return SAME;
            }
            int left = one;
            int right = other;
            for (int at = PLACES - 1; at > 0 && left % LETTERS == right % LETTERS; at--) {
                left /= LETTERS;
                right /= LETTERS;
            }
            // The last letters that are left differ now, so what stands ahead of them decides.
            int leftAhead = left / LETTERS;
            int rightAhead = right / LETTERS;
            if (leftAhead == rightAhead) {
                return ONE_LETTER;
            }
            boolean crossed = left % LETTERS == rightAhead % LETTERS && right % LETTERS == leftAhead % LETTERS;
            return crossed && leftAhead / LETTERS == rightAhead / LETTERS ? SWAPPED : FITS;
        }

        static int units(int code) {
            int units = (PLACES - 1) * SIGN_GAP;
            int left = code;
            for (int at = 0; at < PLACES; at++) {
                units += LETTER_UNITS[Math.floorMod(left, LETTERS)];
                left /= LETTERS;
            }
            return units;
        }
    }

    /** A row of at most 40 plain words; what comes when it is full is left out. */
    private static final class Line {
        private final int[] row = new int[LINE_MOST];
        private int count;

        void clear() {
            count = 0;
        }

        void append(int word) {
            if (count < row.length) {
                row[count] = word;
                count++;
            }
        }

        void appendAll(int[] source, int start, int size) {
            for (int at = start; at < start + size && at < source.length; at++) {
                append(source[at]);
            }
        }
    }

    /** Code words and their phrases; each phrase has six places in one row, used or not. */
    private static final class Book {
        private final int[] codes = new int[ENTRIES_MOST];
        private final int[] sizes = new int[ENTRIES_MOST];
        private final int[] phrases = new int[ENTRIES_MOST * PHRASE_MOST];
        private int count;

        static int startOf(int entry) {
            return entry * PHRASE_MOST;
        }

        void add(int code, Line phrase) {
            if (count >= ENTRIES_MOST || phrase.count > PHRASE_MOST) {
                return;
            }
            codes[count] = code;
            sizes[count] = phrase.count;
            System.arraycopy(phrase.row, 0, phrases, startOf(count), phrase.count);
            count++;
        }

        void remove(int entry) {
            int behind = entry + 1;
            int moved = count - behind;
            if (entry < 0 || moved < 0) {
                return;
            }
            System.arraycopy(codes, behind, codes, entry, moved);
            System.arraycopy(sizes, behind, sizes, entry, moved);
            System.arraycopy(phrases, startOf(behind), phrases, startOf(entry), startOf(moved));
            count--;
        }

        int latestCode() {
            return count == 0 ? 0 : codes[count - 1];
        }

        int entryWith(int code) {
            for (int entry = 0; entry < count; entry++) {
                if (codes[entry] == code) {
                    return entry;
                }
            }
            return NONE;
        }

        int reasonAgainst(int code) {
            if (count >= ENTRIES_MOST) {
                return FULL;
            }
            int first = FITS;
            for (int entry = 0; entry < count; entry++) {
                int likeness = Code.likeness(codes[entry], code);
                if (likeness != FITS && (first == FITS || likeness < first)) {
                    first = likeness;
                }
            }
            return first;
        }

        int fitFrom(int from) {
            if (count >= ENTRIES_MOST) {
                return NONE;
            }
            for (int code = from; code <= from + FIT_REACH && code <= CODE_LAST; code++) {
                if (reasonAgainst(code) == FITS) {
                    return code;
                }
            }
            return NONE;
        }

        /** Answers the entry whose code word is unlike by one garbling alone; NONE if it is not just one. */
        int onlyEntryLike(int code) {
            int only = NONE;
            for (int entry = 0; entry < count; entry++) {
                if (Code.likeness(codes[entry], code) != FITS) {
                    if (only != NONE) {
                        return NONE;
                    }
                    only = entry;
                }
            }
            return only;
        }

        boolean hasPhrase(int[] source, int start, int size) {
            for (int entry = 0; entry < count; entry++) {
                if (sizes[entry] == size && sameWords(phrases, startOf(entry), source, start, size)) {
                    return true;
                }
            }
            return false;
        }

        /** Of two pieces that cost the same, tells whether this entry is taken ahead of the other one. */
        boolean goesAhead(int entry, int other) {
            if (other == NONE || sizes[entry] > sizes[other]) {
                return true;
            }
            return sizes[entry] == sizes[other] && codes[entry] < codes[other];
        }

        long mixInto(long sum) {
            long mixed = mix(sum, count);
            for (int entry = 0; entry < count; entry++) {
                mixed = mix(mixed, codes[entry]);
                mixed = mixRow(mixed, phrases, startOf(entry), sizes[entry]);
            }
            return mixed;
        }
    }

    /** A row of groups, held as group() tells them: a code word, or -1 less a plain word. */
    private static final class Message {
        private final int[] row = new int[LINE_MOST];
        private int count;

        static int plain(int word) {
            return -1 - word;
        }

        static boolean isPlain(int group) {
            return group < 0;
        }

        static int wordOf(int group) {
            return -1 - group;
        }

        void clear() {
            count = 0;
        }

        void append(int group) {
            if (count < row.length) {
                row[count] = group;
                count++;
            }
        }

        int costAt(int price) {
            int sum = 0;
            for (int at = 0; at < count; at++) {
                sum += isPlain(row[at]) ? price : 1;
            }
            return sum;
        }

        int units() {
            int sum = 0;
            for (int at = 0; at < count; at++) {
                sum += at == 0 ? 0 : GROUP_GAP;
                sum += isPlain(row[at]) ? wordUnits(wordOf(row[at])) : Code.units(row[at]);
            }
            return sum;
        }

        private static int wordUnits(int word) {
            int units = (DIGITS_OF_WORD - 1) * SIGN_GAP;
            int left = word;
            for (int at = 0; at < DIGITS_OF_WORD; at++) {
                units += DIGIT_UNITS[Math.floorMod(left, DIGITS)];
                left /= DIGITS;
            }
            return units;
        }
    }

    /** The cheapest division of a row of words into pieces, found from its end to its beginning. */
    private static final class Division {
        private final int[] least = new int[LINE_MOST + 1];
        private final int[] pieces = new int[LINE_MOST];

        /** Answers the least cost; pieces tells the entry to take at each place then, NONE for a plain word. */
        int divide(Book book, int price, int[] source, int start, int size) {
            if (size < 0 || size > LINE_MOST) {
                return 0;
            }
            least[size] = 0;
            for (int at = size - 1; at >= 0; at--) {
                pieces[at] = bestPiece(book, price + least[at + 1], source, start + at, at, size);
                least[at] = pieces[at] == NONE
                        ? price + least[at + 1] : 1 + least[at + book.sizes[pieces[at]]];
            }
            return least[0];
        }

        private int bestPiece(Book book, int plainCost, int[] source, int start, int at, int size) {
            int best = NONE;
            int bestCost = plainCost;
            for (int entry = 0; entry < book.count; entry++) {
                int end = at + book.sizes[entry];
                if (end > size || !sameWords(book.phrases, Book.startOf(entry), source, start, end - at)) {
                    continue;
                }
                int whole = 1 + least[end];
                if (whole < bestCost || (whole == bestCost && book.goesAhead(entry, best))) {
                    best = entry;
                    bestCost = whole;
                }
            }
            return best;
        }
    }

    /** The kept lines in one row, and how many times each of their phrases stands in them. */
    private static final class Kept {
        // One place more than a line can fill: what stands there is no word, so that
        // no phrase of one line is ever found reaching over into the next line.
        private static final int STRIDE = LINE_MOST + 1;
        private static final int ROW = KEPT_MOST * STRIDE;
        private static final int PHRASE_SIZES = PHRASE_MOST - SAVING_PHRASE_LEAST + 1;

        private final int[] row = new int[ROW];
        private final int[] sizes = new int[KEPT_MOST];
        // By size and place of the first finding. Kept lines never change,
        // so counting when a line comes saves counting for every proposal.
        private final int[][] times = new int[PHRASE_SIZES][ROW];
        private final int[] freeFrom = new int[ROW];
        private int count;

        Kept() {
            Arrays.fill(row, NONE);
        }

        int startOf(int line) {
            return line * STRIDE;
        }

        void add(Line line) {
            if (count >= KEPT_MOST) {
                return;
            }
            int start = startOf(count);
            System.arraycopy(line.row, 0, row, start, line.count);
            sizes[count] = line.count;
            count++;
            for (int size = SAVING_PHRASE_LEAST; size <= PHRASE_MOST; size++) {
                countPhrases(size, start, start + line.count);
            }
        }

        private void countPhrases(int size, int start, int end) {
            int[] timesOfSize = times[size - SAVING_PHRASE_LEAST];
            Arrays.fill(freeFrom, 0);
            for (int at = start; at + size <= end; at++) {
                int first = firstFinding(at, size);
                if (at >= freeFrom[first]) {
                    timesOfSize[first]++;
                    freeFrom[first] = at + size;
                }
            }
        }

        private int firstFinding(int at, int size) {
            for (int first = 0; first < at; first++) {
                if (sameWords(row, first, row, at, size)) {
                    return first;
                }
            }
            return at;
        }

        /** Puts the phrase that saves most on the line and answers its saving; 0 if there is none. */
        int proposeOn(Line line, Book book, int price) {
            int bestSaving = 0;
            int bestStart = 0;
            int bestSize = 0;
            // Sizes and places go upwards, so the first of several equal savings is the one to propose.
            for (int size = SAVING_PHRASE_LEAST; size <= PHRASE_MOST; size++) {
                int[] timesOfSize = times[size - SAVING_PHRASE_LEAST];
                for (int start = 0; start < startOf(count); start++) {
                    int saving = timesOfSize[start] * (size * price - 1);
                    if (timesOfSize[start] >= SAVING_TIMES_LEAST && saving > bestSaving
                            && !book.hasPhrase(row, start, size)) {
                        bestSaving = saving;
                        bestStart = start;
                        bestSize = size;
                    }
                }
            }
            if (bestSaving > 0) {
                line.clear();
                line.appendAll(row, bestStart, bestSize);
            }
            return bestSaving;
        }

        long mixInto(long sum) {
            long mixed = mix(sum, count);
            for (int at = 0; at < count; at++) {
                mixed = mixRow(mixed, row, startOf(at), sizes[at]);
            }
            return mixed;
        }
    }
}
