/** Promises 8 to 15: the calls about books. */
final class BooksTest {
    private static final int LAST = 11881375;
    private static final int[] NO_BOOKS = {-1, 3, Integer.MIN_VALUE, Integer.MAX_VALUE};
    private static final int[] NO_CODES = {-1, LAST + 1, Integer.MIN_VALUE, Integer.MAX_VALUE};

    public static void main(String[] args) {
        letter();
        reason();
        reasonsInTheirOrder();
        firstFit();
        define();
        drop();
        entries();
        entry();
        find();
        Check.end();
    }

    private static void letter() {
        WireBook book = new WireBook();
        int code = Check.code("bdzay");
        int[] due = {1, 3, 25, 0, 24};
        for (int place = 0; place < 5; place++) {
            Check.same("8: bdzay at " + place, book.letter(code, place), due[place]);
            Check.same("8: aaaaa at " + place, book.letter(0, place), 0);
            Check.same("8: zzzzz at " + place, book.letter(LAST, place), 25);
        }
        for (int wrong : NO_CODES) {
            Check.fails("8: code " + wrong, Check.ARGUMENT, () -> book.letter(wrong, 0));
            Check.fails("8: both wrong", Check.ARGUMENT, () -> book.letter(wrong, 5));
        }
        int[] places = {-1, 5, Integer.MIN_VALUE, Integer.MAX_VALUE};
        for (int wrong : places) {
            Check.fails("8: place " + wrong, Check.INDEX, () -> book.letter(0, wrong));
        }
    }

    private static void reason() {
        WireBook book = new WireBook();
        Check.same("9: empty book", book.reason(0, 0), 0);
        Check.define(book, 0, Check.code("hotel"), 1);
        Check.same("9: the same", book.reason(0, Check.code("hotel")), 2);
        String[] oneLetter = {"aotel", "hatel", "hozel", "hotal", "hotem"};
        for (String letters : oneLetter) {
            Check.same("9: " + letters, book.reason(0, Check.code(letters)), 3);
        }
        String[] swapped = {"ohtel", "htoel", "hoetl", "hotle"};
        for (String letters : swapped) {
            Check.same("9: " + letters, book.reason(0, Check.code(letters)), 4);
        }
        String[] unlike = {"tohel", "letoh", "hotxx", "xxtel", "ohetl", "hotlf", "axtel", "hltoe", "aaaaa", "zzzzz"};
        for (String letters : unlike) {
            Check.same("9: " + letters, book.reason(0, Check.code(letters)), 0);
        }
        Check.same("9: another book", book.reason(1, Check.code("hotel")), 0);
        for (int wrong : NO_BOOKS) {
            Check.fails("9: book " + wrong, Check.INDEX, () -> book.reason(wrong, 0));
            Check.fails("9: book and code", Check.INDEX, () -> book.reason(wrong, -1));
        }
        for (int wrong : NO_CODES) {
            Check.fails("9: code " + wrong, Check.ARGUMENT, () -> book.reason(2, wrong));
        }
    }

    private static void reasonsInTheirOrder() {
        WireBook book = new WireBook();
        // abaaa is one swap away from baaaa and one letter away from abbaa, in either order of the entries.
        Check.define(book, 0, Check.code("baaaa"), 1);
        Check.define(book, 0, Check.code("abbaa"), 2);
        Check.same("9: 3 ahead of 4, swapped entry first", book.reason(0, Check.code("abaaa")), 3);
        Check.define(book, 1, Check.code("abbaa"), 2);
        Check.define(book, 1, Check.code("baaaa"), 1);
        Check.same("9: 3 ahead of 4, swapped entry last", book.reason(1, Check.code("abaaa")), 3);
        fill(book, 2);
        Check.same("9: 1 ahead of 2", book.reason(2, book.entry(2, 0, -1)), 1);
        Check.same("9: 1 with an unlike code word", book.reason(2, LAST), 1);
        book.drop(2, 39);
        Check.same("9: 39 entries are not 40", book.reason(2, LAST), 0);
        Check.same("9: 2 again", book.reason(2, book.entry(2, 38, -1)), 2);
    }

    private static void firstFit() {
        WireBook book = new WireBook();
        Check.same("10: empty book", book.firstFit(0, 77), 77);
        Check.same("10: last code word", book.firstFit(0, LAST), LAST);
        Check.define(book, 0, 0, 1);
        Check.same("10: from aaaaa", book.firstFit(0, 0), Check.code("aaabb"));
        Check.define(book, 0, Check.code("aaabb"), 2);
        Check.same("10: from aaaaa again", book.firstFit(0, 0), Check.code("aaacc"));
        Check.define(book, 0, LAST, 1);
        Check.same("10: nothing behind zzzzz", book.firstFit(0, LAST), -1);
        Check.same("10: from zzzza on", book.firstFit(0, LAST - 25), -1);
        Check.same("10: from zzzya on", book.firstFit(0, Check.code("zzzya")), Check.code("zzzya"));
        for (int wrong : NO_BOOKS) {
            Check.fails("10: book " + wrong, Check.INDEX, () -> book.firstFit(wrong, -1));
        }
        for (int wrong : NO_CODES) {
            Check.fails("10: code " + wrong, Check.ARGUMENT, () -> book.firstFit(2, wrong));
        }
        firstFitReach();
        fill(book, 1);
        Check.same("10: full book", book.firstFit(1, LAST), -1);
    }

    /** 26 entries aaaxx refuse all of a plane of 676 code words; the first free one lies behind it. */
    private static void firstFitReach() {
        WireBook book = new WireBook();
        for (int letter = 0; letter < 26; letter++) {
            book.say(letter);
            book.define(0, 27 * letter);
        }
        // aabaa differs in one letter from aaaaa, and aabab is aaabb with two letters in changed places.
        int due = Check.code("aabac");
        for (int from = 0; from <= due; from += 13) {
            Check.same("10: from " + from, book.firstFit(0, from), due);
        }
        Check.same("10: behind it", book.firstFit(0, due + 1), due + 1);
        Check.same("10: aabaa", book.reason(0, Check.code("aabaa")), 3);
        Check.same("10: aabab", book.reason(0, Check.code("aabab")), 4);
    }

    private static void define() {
        WireBook book = new WireBook();
        Check.refuses(book, "11: empty line", Check.STATE, () -> book.define(0, 0));
        Check.say(book, 5, 6, 7, 8, 9, 10);
        Check.same("11: six words", book.define(0, 0), 0);
        Check.same("11: the line is empty then", book.words(), 0);
        Check.phrase("11: first", book, 0, 0, 0, 5, 6, 7, 8, 9, 10);
        Check.say(book, 3);
        Check.same("11: one word", book.define(0, LAST), 1);
        Check.phrase("11: second", book, 0, 1, LAST, 3);
        Check.say(book, 3);
        Check.same("11: the same phrase and code word in another book", book.define(1, LAST), 0);
        Check.say(book, 3);
        Check.same("11: the same phrase twice in a book", book.define(1, 0), 1);
        Check.say(book, 1, 2, 3, 4, 5, 6);
        Check.refuses(book, "11: had already", Check.STATE, () -> book.define(0, 0));
        Check.refuses(book, "11: one letter", Check.STATE, () -> book.define(0, 25));
        Check.say(book, 7);
        Check.refuses(book, "11: seven words", Check.STATE, () -> book.define(2, 0));
        for (int wrong : NO_BOOKS) {
            Check.refuses(book, "11: book " + wrong, Check.INDEX, () -> book.define(wrong, -1));
        }
        for (int wrong : NO_CODES) {
            Check.refuses(book, "11: code " + wrong, Check.ARGUMENT, () -> book.define(2, wrong));
        }
        fill(book, 2);
        book.say(1);
        Check.refuses(book, "11: full book", Check.STATE, () -> book.define(2, LAST));
    }

    private static void drop() {
        WireBook book = new WireBook();
        Check.refuses(book, "12: empty book", Check.INDEX, () -> book.drop(0, 0));
        Check.define(book, 0, Check.code("aaaaa"), 1, 2, 3);
        Check.define(book, 0, Check.code("bbbbb"), 4);
        Check.define(book, 0, Check.code("ccccc"), 5, 6);
        Check.define(book, 0, Check.code("ddddd"), 7, 8, 9, 10, 11, 12);
        int[] wrong = {-1, 4, 40, Integer.MIN_VALUE, Integer.MAX_VALUE};
        for (int entry : wrong) {
            Check.refuses(book, "12: entry " + entry, Check.INDEX, () -> book.drop(0, entry));
        }
        for (int number : NO_BOOKS) {
            Check.refuses(book, "12: book " + number, Check.INDEX, () -> book.drop(number, 0));
        }
        Check.same("12: three left", book.drop(0, 1), 3);
        Check.phrase("12: ahead", book, 0, 0, Check.code("aaaaa"), 1, 2, 3);
        Check.phrase("12: behind", book, 0, 1, Check.code("ccccc"), 5, 6);
        Check.phrase("12: last", book, 0, 2, Check.code("ddddd"), 7, 8, 9, 10, 11, 12);
        Check.same("12: the last one", book.drop(0, 2), 2);
        Check.same("12: the first one", book.drop(0, 0), 1);
        Check.phrase("12: what is left", book, 0, 0, Check.code("ccccc"), 5, 6);
        Check.same("12: none left", book.drop(0, 0), 0);
        fill(book, 1);
        int second = book.entry(1, 1, -1);
        Check.same("12: of a full book", book.drop(1, 0), 39);
        Check.same("12: numbers are 1 less", book.entry(1, 0, -1), second);
        book.say(4321);
        Check.same("12: room again", book.define(1, LAST), 39);
        Check.phrase("12: new last", book, 1, 39, LAST, 4321);
    }

    private static void entries() {
        WireBook book = new WireBook();
        fill(book, 1);
        Check.same("13: book 0", book.entries(0), 0);
        Check.same("13: book 1", book.entries(1), 40);
        Check.define(book, 2, 5, 5);
        Check.same("13: book 2", book.entries(2), 1);
        for (int wrong : NO_BOOKS) {
            Check.fails("13: book " + wrong, Check.INDEX, () -> book.entries(wrong));
        }
    }

    private static void entry() {
        WireBook book = new WireBook();
        Check.fails("14: empty book", Check.INDEX, () -> book.entry(0, 0, -1));
        Check.define(book, 0, 4711, 21, 22, 23, 24, 25, 26);
        Check.define(book, 0, 0, 31, 32);
        Check.phrase("14: six words", book, 0, 0, 4711, 21, 22, 23, 24, 25, 26);
        Check.phrase("14: two words", book, 0, 1, 0, 31, 32);
        int[] wrong = {-2, 6, Integer.MIN_VALUE, Integer.MAX_VALUE};
        for (int what : wrong) {
            Check.fails("14: what " + what, Check.INDEX, () -> book.entry(0, 0, what));
        }
        Check.fails("14: no such entry", Check.INDEX, () -> book.entry(0, 2, -1));
        Check.fails("14: entry -1", Check.INDEX, () -> book.entry(0, -1, 0));
        Check.fails("14: far entry", Check.INDEX, () -> book.entry(0, Integer.MAX_VALUE, 0));
        for (int number : NO_BOOKS) {
            Check.fails("14: book " + number, Check.INDEX, () -> book.entry(number, 0, -1));
        }
        book.drop(0, 1);
        Check.fails("14: dropped", Check.INDEX, () -> book.entry(0, 1, 0));
    }

    private static void find() {
        WireBook book = new WireBook();
        Check.define(book, 0, 100, 1);
        Check.define(book, 0, 0, 2);
        Check.define(book, 0, LAST, 3);
        Check.same("15: first", book.find(0, 100), 0);
        Check.same("15: second", book.find(0, 0), 1);
        Check.same("15: third", book.find(0, LAST), 2);
        Check.same("15: alike is not the same", book.find(0, 101), -1);
        Check.same("15: another book", book.find(1, 100), -1);
        book.drop(0, 0);
        Check.same("15: dropped", book.find(0, 100), -1);
        Check.same("15: number 1 less", book.find(0, LAST), 1);
        for (int wrong : NO_BOOKS) {
            Check.fails("15: book " + wrong, Check.INDEX, () -> book.find(wrong, -1));
        }
        for (int wrong : NO_CODES) {
            Check.fails("15: code " + wrong, Check.ARGUMENT, () -> book.find(0, wrong));
        }
    }

    private static void fill(WireBook book, int number) {
        for (int entry = 0; entry < 40; entry++) {
            Check.define(book, number, book.firstFit(number, 0), entry);
        }
    }
}
