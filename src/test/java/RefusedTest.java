import java.util.function.Supplier;

/**
 * 'Terms': "A method that throws an exception changes nothing. If several exceptions apply, the one that is named
 * first is thrown." For each method and each condition of its Throws lines, alone and together with each later one.
 */
final class RefusedTest {
    private static final int LAST = Samples.LAST;
    private static final int[] NO_BOOKS = Samples.NO_BOOKS;
    private static final int[] NO_CODES = Samples.NO_CODES;
    private static final int[] SEVEN = {1, 2, 3, 4, 5, 6, 7};

    private interface Call {
        void on(WireBook book);
    }

    public static void main(String[] args) {
        say();
        keep();
        placesOfLines();
        letter();
        codesInBooks();
        define();
        entriesOfBooks();
        setPrice();
        booksOfMessages();
        garble();
        swap();
        groups();
        learn();
        Check.end();
    }

    /** Each object is asked once, and then for all that it can tell; another one tells what was before. */
    private static void refused(Supplier<WireBook> made, String what, Class<?> due, Call call) {
        WireBook book = made.get();
        Check.fails(what, due, () -> call.on(book));
        String before = Samples.told(made.get());
        String after = Samples.told(book);
        Check.holds(what + " changed something: " + before + " was, " + after + " is", after.equals(before));
    }

    private static WireBook richWithFullLine() {
        WireBook book = Samples.rich();
        Samples.sayOften(book, 8, 40);
        return book;
    }

    private static WireBook richWithTwelveKept(int... line) {
        WireBook book = Samples.rich();
        for (int kept = 3; kept <= 12; kept++) {
            Check.keep(book, kept);
        }
        Check.say(book, line);
        return book;
    }

    private static WireBook richWithFullBook(int... line) {
        WireBook book = Samples.rich();
        book.drop(2, 0);
        Samples.fill(book, 2, 40);
        Check.say(book, line);
        return book;
    }

    private static void say() {
        int[] wrong = {-1, 10000, Integer.MIN_VALUE, Integer.MAX_VALUE};
        for (int word : wrong) {
            refused(() -> Samples.rich(9), "say(" + word + ")", Check.ARGUMENT, book -> book.say(word));
            refused(RefusedTest::richWithFullLine, "say(" + word + ") on 40 words", Check.ARGUMENT,
                    book -> book.say(word));
        }
        refused(RefusedTest::richWithFullLine, "say(0) on 40 words", Check.STATE, book -> book.say(0));
    }

    private static void keep() {
        refused(() -> Samples.rich(), "keep() of nothing", Check.STATE, WireBook::keep);
        refused(() -> richWithTwelveKept(4, 5), "keep() of a 13th", Check.STATE, WireBook::keep);
        refused(() -> richWithTwelveKept(), "keep() of nothing as a 13th", Check.STATE, WireBook::keep);
    }

    private static void placesOfLines() {
        int[] wrong = {-1, 2, 40, Integer.MIN_VALUE, Integer.MAX_VALUE};
        for (int place : wrong) {
            refused(() -> Samples.rich(8, 9), "wordAt(" + place + ")", Check.INDEX, book -> book.wordAt(place));
            refused(() -> Samples.rich(8, 9), "recall(" + place + ")", Check.INDEX, book -> book.recall(place));
        }
    }

    private static void letter() {
        int[] places = {-1, 5, Integer.MIN_VALUE, Integer.MAX_VALUE};
        for (int place : places) {
            refused(() -> Samples.rich(9), "letter(0, " + place + ")", Check.INDEX, book -> book.letter(0, place));
            for (int code : NO_CODES) {
                refused(() -> Samples.rich(9), "letter(" + code + ", " + place + ")", Check.ARGUMENT,
                        book -> book.letter(code, place));
            }
        }
        for (int code : NO_CODES) {
            refused(() -> Samples.rich(9), "letter(" + code + ", 0)", Check.ARGUMENT, book -> book.letter(code, 0));
        }
    }

    private static void codesInBooks() {
        codesInBooks("reason", WireBook::reason);
        codesInBooks("firstFit", WireBook::firstFit);
        codesInBooks("find", WireBook::find);
        codesInBooks("define", WireBook::define);
    }

    private interface OfCode {
        int on(WireBook book, int number, int code);
    }

    private static void codesInBooks(String name, OfCode asked) {
        for (int code : NO_CODES) {
            refused(() -> Samples.rich(9), name + "(0, " + code + ")", Check.ARGUMENT,
                    book -> asked.on(book, 0, code));
            refused(() -> Samples.rich(9), name + "(-1, " + code + ")", Check.INDEX,
                    book -> asked.on(book, -1, code));
            refused(() -> Samples.rich(9), name + "(3, " + code + ")", Check.INDEX,
                    book -> asked.on(book, 3, code));
        }
        for (int number : NO_BOOKS) {
            refused(() -> Samples.rich(9), name + "(" + number + ", 0)", Check.INDEX,
                    book -> asked.on(book, number, 0));
        }
    }

    private static void define() {
        String[] unfit = {"hotel", "hotem", "hotle", "zotel", "ohtel"};
        for (String letters : unfit) {
            int code = Check.code(letters);
            refused(() -> Samples.rich(9), "define of " + letters, Check.STATE, book -> book.define(0, code));
            refused(() -> Samples.rich(), "define of " + letters + " and nothing", Check.STATE,
                    book -> book.define(0, code));
        }
        refused(() -> Samples.rich(), "define of no words", Check.STATE, book -> book.define(0, LAST));
        refused(() -> Samples.rich(SEVEN), "define of seven words", Check.STATE, book -> book.define(0, LAST));
        refused(RefusedTest::richWithFullLine, "define of 40 words", Check.STATE, book -> book.define(0, LAST));
        refused(() -> richWithFullBook(7), "define of a 41st", Check.STATE, book -> book.define(2, LAST));
        refused(() -> richWithFullBook(SEVEN), "define of a 41st with seven words", Check.STATE,
                book -> book.define(2, LAST));
        for (int code : NO_CODES) {
            refused(() -> Samples.rich(), "define(1, " + code + ") of no words", Check.ARGUMENT,
                    book -> book.define(1, code));
            refused(() -> Samples.rich(SEVEN), "define(1, " + code + ") of seven words", Check.ARGUMENT,
                    book -> book.define(1, code));
            refused(() -> richWithFullBook(7), "define(2, " + code + ") of a 41st", Check.ARGUMENT,
                    book -> book.define(2, code));
        }
        for (int number : NO_BOOKS) {
            refused(() -> Samples.rich(), "define(" + number + ", 0) of no words", Check.INDEX,
                    book -> book.define(number, 0));
            refused(() -> Samples.rich(SEVEN), "define(" + number + ", -1) of seven words", Check.INDEX,
                    book -> book.define(number, -1));
        }
    }

    private static void entriesOfBooks() {
        int[] wrong = {-1, 2, 40, Integer.MIN_VALUE, Integer.MAX_VALUE};
        for (int entry : wrong) {
            refused(() -> Samples.rich(9), "drop(0, " + entry + ")", Check.INDEX, book -> book.drop(0, entry));
            refused(() -> Samples.rich(9), "entry(0, " + entry + ", -1)", Check.INDEX,
                    book -> book.entry(0, entry, -1));
        }
        int[] words = {-2, 2, 6, Integer.MIN_VALUE, Integer.MAX_VALUE};
        for (int what : words) {
            refused(() -> Samples.rich(9), "entry(0, 0, " + what + ")", Check.INDEX,
                    book -> book.entry(0, 0, what));
        }
        for (int number : NO_BOOKS) {
            refused(() -> Samples.rich(9), "drop(" + number + ", 0)", Check.INDEX, book -> book.drop(number, 0));
            refused(() -> Samples.rich(9), "entries(" + number + ")", Check.INDEX, book -> book.entries(number));
            refused(() -> Samples.rich(9), "entry(" + number + ", 0, -1)", Check.INDEX,
                    book -> book.entry(number, 0, -1));
        }
    }

    private static void setPrice() {
        int[] wrong = {0, 6, -1, Integer.MIN_VALUE, Integer.MAX_VALUE};
        for (int price : wrong) {
            refused(() -> Samples.rich(9), "setPrice(" + price + ")", Check.ARGUMENT,
                    book -> book.setPrice(price));
        }
    }

    private static void booksOfMessages() {
        for (int number : NO_BOOKS) {
            refused(() -> Samples.rich(9), "encode(" + number + ")", Check.INDEX, book -> book.encode(number));
            refused(() -> Samples.rich(9), "decode(" + number + ")", Check.INDEX, book -> book.decode(number));
            refused(() -> Samples.rich(9), "share(" + number + ")", Check.INDEX, book -> book.share(number));
            refused(() -> Samples.rich(9), "propose(" + number + ")", Check.INDEX, book -> book.propose(number));
        }
    }

    /** The message of a rich object: group 0 is a plain word, groups 1 and 2 are code words. */
    private static void garble() {
        int[] groups = {-1, 3, 40, Integer.MIN_VALUE, Integer.MAX_VALUE};
        for (int group : groups) {
            refused(() -> Samples.rich(9), "garble(" + group + ", 0, 0)", Check.INDEX,
                    book -> book.garble(group, 0, 0));
            refused(() -> Samples.rich(9), "garble(" + group + ", 0, 26)", Check.INDEX,
                    book -> book.garble(group, 0, 26));
        }
        int[] places = {-1, 5, Integer.MIN_VALUE, Integer.MAX_VALUE};
        for (int place : places) {
            refused(() -> Samples.rich(9), "garble(1, " + place + ", 0)", Check.INDEX,
                    book -> book.garble(1, place, 0));
            refused(() -> Samples.rich(9), "garble(1, " + place + ", 26)", Check.INDEX,
                    book -> book.garble(1, place, 26));
            refused(() -> Samples.rich(9), "garble(0, " + place + ", 0) of a plain word", Check.INDEX,
                    book -> book.garble(0, place, 0));
        }
        int[] letters = {-1, 26, Integer.MIN_VALUE, Integer.MAX_VALUE};
        for (int letter : letters) {
            refused(() -> Samples.rich(9), "garble(1, 0, " + letter + ")", Check.ARGUMENT,
                    book -> book.garble(1, 0, letter));
            refused(() -> Samples.rich(9), "garble(0, 0, " + letter + ") of a plain word", Check.ARGUMENT,
                    book -> book.garble(0, 0, letter));
        }
        refused(() -> Samples.rich(9), "garble(0, 0, 0) of a plain word", Check.STATE,
                book -> book.garble(0, 0, 0));
    }

    private static void swap() {
        int[] groups = {-1, 3, 40, Integer.MIN_VALUE, Integer.MAX_VALUE};
        for (int group : groups) {
            refused(() -> Samples.rich(9), "swap(" + group + ", 0)", Check.INDEX, book -> book.swap(group, 0));
        }
        int[] places = {-1, 4, 5, Integer.MIN_VALUE, Integer.MAX_VALUE};
        for (int place : places) {
            refused(() -> Samples.rich(9), "swap(1, " + place + ")", Check.INDEX, book -> book.swap(1, place));
            refused(() -> Samples.rich(9), "swap(0, " + place + ") of a plain word", Check.INDEX,
                    book -> book.swap(0, place));
        }
        refused(() -> Samples.rich(9), "swap(0, 0) of a plain word", Check.STATE, book -> book.swap(0, 0));
    }

    private static void groups() {
        int[] groups = {-1, 3, 40, Integer.MIN_VALUE, Integer.MAX_VALUE};
        for (int group : groups) {
            refused(() -> Samples.rich(9), "group(" + group + ")", Check.INDEX, book -> book.group(group));
            refused(() -> Samples.rich(9), "how(" + group + ")", Check.INDEX, book -> book.how(group));
        }
    }

    private static void learn() {
        int[] most = {0, 41, -1, Integer.MIN_VALUE, Integer.MAX_VALUE};
        for (int wrong : most) {
            refused(() -> Samples.rich(9), "learn(0, " + wrong + ")", Check.ARGUMENT, book -> book.learn(0, wrong));
            refused(() -> richWithFullBook(9), "learn(2, " + wrong + ") into a full book", Check.ARGUMENT,
                    book -> book.learn(2, wrong));
            refused(() -> Samples.rich(9), "learn(3, " + wrong + ")", Check.INDEX, book -> book.learn(3, wrong));
        }
        for (int number : NO_BOOKS) {
            refused(() -> Samples.rich(9), "learn(" + number + ", 1)", Check.INDEX, book -> book.learn(number, 1));
        }
    }
}
