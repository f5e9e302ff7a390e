/** Objects in the states that several tests begin with, made with few calls: an object is used for 512 at most. */
final class Samples {
    static final int LAST = 11881375;
    static final int[] NO_BOOKS = {-1, 3, Integer.MIN_VALUE, Integer.MAX_VALUE};
    static final int[] NO_CODES = {-1, LAST + 1, Integer.MIN_VALUE, Integer.MAX_VALUE};

    private Samples() { }

    /** Code words for 40 entries, no two of them alike: aaaaa to aaazz, then bbaaa to bbann. */
    static int codeOf(int entry) {
        return entry < 26 ? 27 * entry : Check.code("bbaaa") + 27 * (entry - 26);
    }

    /** Gives an empty book so many entries, each with its number as its phrase; the line is empty then. */
    static void fill(WireBook book, int number, int entries) {
        book.empty();
        for (int entry = 0; entry < entries; entry++) {
            book.say(entry);
            book.define(number, codeOf(entry));
        }
    }

    static void sayOften(WireBook book, int word, int times) {
        for (int count = 0; count < times; count++) {
            book.say(word);
        }
    }

    static void keepOften(WireBook book, int word, int times) {
        sayOften(book, word, times);
        book.keep();
    }

    /** A message of this one code word; books 0 and 1 are without entries, book 2 has the one that was used. */
    static WireBook messageOf(int code) {
        WireBook book = new WireBook();
        book.say(1);
        book.say(2);
        book.define(2, code);
        book.say(1);
        book.say(2);
        book.encode(2);
        book.empty();
        return book;
    }

    /**
     * Something of everything: price 4; kept lines; entries in each book; a message of a plain word
     * and two code words, the last one garbled, read as 0 1 3; this line.
     */
    static WireBook rich(int... line) {
        WireBook book = new WireBook();
        book.setPrice(4);
        Check.keep(book, 1, 2, 3);
        Check.keep(book, 1, 2, 3, 4);
        Check.define(book, 0, Check.code("hotel"), 1, 2);
        Check.define(book, 0, Check.code("aaaaa"), 3);
        Check.define(book, 1, Check.code("hotel"), 6, 6, 6, 6, 6, 6);
        Check.define(book, 2, Check.code("zzzzz"), 8);
        Check.say(book, 5, 1, 2, 3);
        book.encode(0);
        book.garble(2, 0, 1);
        book.garble(2, 1, 1);
        book.decode(0);
        book.empty();
        Check.say(book, line);
        return book;
    }

    /** All that an object tells of itself; the object is of no more use then. */
    static String told(WireBook book) {
        StringBuilder told = new StringBuilder();
        told.append("digest ").append(book.digest()).append(" cost ").append(book.cost());
        told.append(" time ").append(book.time());
        row(told, " line", book.words(), book::wordAt);
        row(told, " message", book.groups(), book::group);
        row(told, " read", 41, book::how);
        for (int number = 0; number < 3; number++) {
            int asked = number;
            told.append(" share ").append(book.share(number));
            row(told, " book", book.entries(number), entry -> book.entry(asked, entry, -1));
        }
        told.append(" price ").append(book.setPrice(1));
        for (int kept = 0; kept < 12 && recalled(book, kept); kept++) {
            row(told, " kept", book.words(), book::wordAt);
        }
        return told.toString();
    }

    private interface Row {
        int at(int place);
    }

    private static void row(StringBuilder told, String name, int size, Row row) {
        told.append(name);
        for (int place = 0; place < size; place++) {
            try {
                told.append(' ').append(row.at(place));
            } catch (IndexOutOfBoundsException end) {
                return;
            }
        }
    }

    private static boolean recalled(WireBook book, int kept) {
        try {
            book.recall(kept);
            return true;
        } catch (IndexOutOfBoundsException end) {
            return false;
        }
    }
}
