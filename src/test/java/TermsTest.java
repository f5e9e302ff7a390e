/**
 * 'Terms', the parts about lines, code words, books and fitting: each sentence that names a boundary case has a
 * test of its own, which quotes it. TurningTest, ReadingTest, TimeTest and SavingTest have the other parts,
 * RefusedTest has the exceptions.
 */
final class TermsTest {
    private static final int LAST = Samples.LAST;

    private interface OfBook {
        void on(WireBook book, int number);
    }

    public static void main(String[] args) {
        plainWords();
        lineAtFirst();
        lineFull();
        codeWords();
        lettersAsNumbers();
        threeBooks();
        threeBooksApart();
        bookFull();
        numbersOfEntries();
        numbersAfterDrop();
        phraseOfOne();
        phraseOfSix();
        fitsFull();
        fitsSame();
        fitsOneLetter();
        fitsTwoLetters();
        fitsSwapped();
        fitsSwappedFarApart();
        Check.end();
    }

    /** "Plain words are numbers, 0 to 9999." */
    private static void plainWords() {
        WireBook book = new WireBook();
        Check.refuses(book, "word -1", Check.ARGUMENT, () -> book.say(-1));
        Check.same("word 0", book.say(0), 1);
        Check.same("word 9999", book.say(9999), 2);
        Check.refuses(book, "word 10000", Check.ARGUMENT, () -> book.say(10000));
        Check.line("words 0 and 9999", book, 0, 9999);
        plainWords(0, 9999);
        plainWords(9999, 0);
        plainWords(9999, 9999, 8192, 8191, 4096, 256);
    }

    /** Wherever words stand, from the first to the last one of a row, they stay what they are. */
    private static void plainWords(int... words) {
        WireBook book = new WireBook();
        Check.say(book, words);
        Check.line("said", book, words);
        book.encode(0);
        for (int at = 0; at < words.length; at++) {
            Check.same("sent", book.group(at), -1 - words[at]);
        }
        book.empty();
        book.decode(0);
        Check.line("read", book, words);
        book.keep();
        book.recall(0);
        Check.line("kept", book, words);
        book.keep();
        book.propose(0);
        Check.line("proposed", book, words);
        book.define(0, 5);
        Check.phrase("a phrase", book, 0, 0, 5, words);
        book.recall(1);
        book.encode(0);
        book.decode(0);
        Check.line("read by an entry", book, words);
    }

    /** "A line is a row of at most 40 plain words; at first it is empty." (at first) */
    private static void lineAtFirst() {
        WireBook book = new WireBook();
        Check.line("at first", book);
        Check.fails("at first no place", Check.INDEX, () -> book.wordAt(0));
        Check.refuses(book, "at first nothing to keep", Check.STATE, book::keep);
        Check.refuses(book, "at first no phrase", Check.STATE, () -> book.define(0, 0));
        Check.same("at first nothing to empty", book.empty(), 0);
        Check.same("at first no cost", book.encode(0), 0);
    }

    /** "A line is a row of at most 40 plain words; at first it is empty." (at most 40) */
    private static void lineFull() {
        WireBook book = new WireBook();
        for (int word = 0; word < 39; word++) {
            book.say(word);
        }
        Check.same("the 40th word", book.say(39), 40);
        Check.refuses(book, "the 41st word", Check.STATE, () -> book.say(40));
        Check.same("40 words", book.words(), 40);
        Check.same("the last place", book.wordAt(39), 39);
        Check.fails("no 41st place", Check.INDEX, () -> book.wordAt(40));
        book.keep();
        Check.same("40 words are recalled", book.recall(0), 40);
        Check.same("the last one too", book.wordAt(39), 39);
        Check.refuses(book, "the 41st word on a recalled line", Check.STATE, () -> book.say(40));
        book.encode(0);
        book.decode(0);
        Check.refuses(book, "the 41st word on a line that was read", Check.STATE, () -> book.say(40));
    }

    /** "Code words have five letters, and are told as numbers, 0 to 11881375" */
    private static void codeWords() {
        int[] allowed = {0, LAST};
        for (int code : allowed) {
            WireBook book = new WireBook();
            Check.same("reason of " + code, book.reason(0, code), 0);
            Check.same("firstFit from " + code, book.firstFit(0, code), code);
            Check.same("find " + code, book.find(0, code), -1);
            Check.same("letter of " + code, book.letter(code, 2), code == 0 ? 0 : 25);
            book.say(7);
            Check.same("define " + code, book.define(0, code), 0);
            Check.same("find " + code + " again", book.find(0, code), 0);
            Check.same("entry with " + code, book.entry(0, 0, -1), code);
            book.say(7);
            book.encode(0);
            Check.message("group with " + code, book, code);
        }
        int[] refused = {-1, LAST + 1};
        for (int code : refused) {
            WireBook book = new WireBook();
            book.say(7);
            Check.refuses(book, "reason of " + code, Check.ARGUMENT, () -> book.reason(0, code));
            Check.refuses(book, "firstFit from " + code, Check.ARGUMENT, () -> book.firstFit(0, code));
            Check.refuses(book, "find " + code, Check.ARGUMENT, () -> book.find(0, code));
            Check.refuses(book, "letter of " + code, Check.ARGUMENT, () -> book.letter(code, 2));
            Check.refuses(book, "define " + code, Check.ARGUMENT, () -> book.define(0, code));
        }
    }

    /** "26 * (26 * (26 * (26 * a + b) + c) + d) + e for the letters a, b, c, d, e, each 0 (a) to 25 (z)" */
    private static void lettersAsNumbers() {
        WireBook book = new WireBook();
        int[] codes = {0, 25, 26, 675, 676, 17575, 17576, 456975, 456976, LAST - 1, LAST};
        String[] due = {"aaaaa", "aaaaz", "aaaba", "aaazz", "aabaa", "aazzz", "abaaa", "azzzz", "baaaa", "zzzzy", "zzzzz"};
        for (int at = 0; at < codes.length; at++) {
            for (int place = 0; place < 5; place++) {
                Check.same(due[at] + " at " + place, book.letter(codes[at], place), due[at].charAt(place) - 'a');
            }
        }
    }

    /** "There are 3 books, 0 to 2." */
    private static void threeBooks() {
        threeBooks("reason", (book, number) -> book.reason(number, 0));
        threeBooks("firstFit", (book, number) -> book.firstFit(number, 0));
        threeBooks("define", (book, number) -> book.define(number, 0));
        threeBooks("drop", (book, number) -> book.drop(number, 0));
        threeBooks("entries", (book, number) -> book.entries(number));
        threeBooks("entry", (book, number) -> book.entry(number, 0, -1));
        threeBooks("find", (book, number) -> book.find(number, 0));
        threeBooks("encode", (book, number) -> book.encode(number));
        threeBooks("decode", (book, number) -> book.decode(number));
        threeBooks("share", (book, number) -> book.share(number));
        threeBooks("propose", (book, number) -> book.propose(number));
        threeBooks("learn", (book, number) -> book.learn(number, 1));
    }

    private static void threeBooks(String name, OfBook asked) {
        for (int number = -1; number <= 3; number++) {
            WireBook book = new WireBook();
            for (int each = 0; each < 3; each++) {
                Check.define(book, each, 100000 * (each + 1), each);
            }
            book.say(5);
            int with = number;
            if (number < 0 || number > 2) {
                Check.refuses(book, name + " of book " + number, Check.INDEX, () -> asked.on(book, with));
            } else {
                Check.fails(name + " of book " + number, null, () -> asked.on(book, with));
            }
        }
    }

    /** "There are 3 books, 0 to 2." (what is done to one is not done to the others) */
    private static void threeBooksApart() {
        WireBook book = new WireBook();
        for (int number = 0; number < 3; number++) {
            Check.define(book, number, 5, number);
            Check.define(book, number, 500, number + 10);
        }
        book.drop(1, 0);
        int[] due = {2, 1, 2};
        for (int number = 0; number < 3; number++) {
            Check.same("entries of book " + number, book.entries(number), due[number]);
        }
        Check.phrase("book 0", book, 0, 0, 5, 0);
        Check.phrase("book 1", book, 1, 0, 500, 11);
        Check.phrase("book 2", book, 2, 0, 5, 2);
        Check.say(book, 2);
        book.encode(2);
        Check.message("with book 2", book, 5);
        book.encode(0);
        Check.message("with book 0", book, -3);
    }

    /** "A book has at most 40 entries" */
    private static void bookFull() {
        WireBook book = new WireBook();
        Samples.fill(book, 1, 39);
        book.say(39);
        Check.same("the 40th entry", book.define(1, Samples.codeOf(39)), 39);
        Check.same("40 entries", book.entries(1), 40);
        Check.same("the last one", book.entry(1, 39, 0), 39);
        Check.fails("no 41st one", Check.INDEX, () -> book.entry(1, 40, -1));
        book.say(40);
        Check.refuses(book, "the 41st entry", Check.STATE, () -> book.define(1, LAST));
        Check.same("another book has room", book.define(0, LAST), 0);
        book.drop(1, 39);
        book.say(40);
        Check.same("a 40th entry again", book.define(1, LAST), 39);
    }

    /** "numbered from 0 in the order in which they came" (whatever their code words are) */
    private static void numbersOfEntries() {
        WireBook book = new WireBook();
        int[] codes = {LAST, 0, 5000000, 300};
        for (int entry = 0; entry < codes.length; entry++) {
            book.say(entry);
            Check.same("number of entry " + entry, book.define(0, codes[entry]), entry);
        }
        for (int entry = 0; entry < codes.length; entry++) {
            Check.phrase("entry " + entry, book, 0, entry, codes[entry], entry);
        }
    }

    /** "if one is dropped, those behind it have numbers that are 1 less" */
    private static void numbersAfterDrop() {
        int[] dropped = {0, 20, 38, 39};
        for (int drop : dropped) {
            WireBook book = new WireBook();
            Samples.fill(book, 0, 40);
            Check.same("39 are left", book.drop(0, drop), 39);
            for (int entry = 0; entry < 39; entry++) {
                int was = entry < drop ? entry : entry + 1;
                Check.same("code word " + entry, book.entry(0, entry, -1), Samples.codeOf(was));
                Check.same("phrase " + entry, book.entry(0, entry, 0), was);
            }
            Check.fails("the last number is gone", Check.INDEX, () -> book.entry(0, 39, -1));
            Check.same("the dropped one is not found", book.find(0, Samples.codeOf(drop)), -1);
        }
    }

    /** "An entry is a code word and a phrase, 1 to 6 plain words." (1) */
    private static void phraseOfOne() {
        WireBook book = new WireBook();
        Check.refuses(book, "a phrase of no words", Check.STATE, () -> book.define(0, 9));
        book.say(3);
        Check.same("a phrase of one word", book.define(0, 9), 0);
        Check.phrase("a phrase of one word", book, 0, 0, 9, 3);
    }

    /** "An entry is a code word and a phrase, 1 to 6 plain words." (6) */
    private static void phraseOfSix() {
        WireBook book = new WireBook();
        Check.say(book, 1, 2, 3, 4, 5, 6);
        Check.same("a phrase of six words", book.define(0, 9), 0);
        Check.phrase("a phrase of six words", book, 0, 0, 9, 1, 2, 3, 4, 5, 6);
        Check.say(book, 1, 2, 3, 4, 5, 6, 7);
        Check.refuses(book, "a phrase of seven words", Check.STATE, () -> book.define(0, 900));
    }

    /** "1, the book has 40 entries" */
    private static void fitsFull() {
        WireBook book = new WireBook();
        Samples.fill(book, 0, 39);
        Check.same("39 entries", book.reason(0, LAST), 0);
        book.say(39);
        book.define(0, Samples.codeOf(39));
        Check.same("40 entries, unlike", book.reason(0, LAST), 1);
        Check.same("40 entries, the same: 1 ahead of 2", book.reason(0, Samples.codeOf(7)), 1);
        Check.same("40 entries, one letter: 1 ahead of 3", book.reason(0, Samples.codeOf(39) + 26), 1);
        Check.same("40 entries, swapped: 1 ahead of 4", book.reason(0, Check.code("aabab")), 1);
        book.drop(0, 20);
        Check.same("39 again, unlike", book.reason(0, LAST), 0);
        Check.same("39 again, the same", book.reason(0, Samples.codeOf(7)), 2);
        Check.same("39 again, one letter", book.reason(0, Samples.codeOf(39) + 26), 3);
        Check.same("39 again, swapped", book.reason(0, Check.code("aabab")), 4);
    }

    /** "2, an entry has this code word" (the first and the last entry, the first and the last code word) */
    private static void fitsSame() {
        WireBook book = new WireBook();
        Check.define(book, 0, 0, 1);
        Check.define(book, 0, Check.code("hotel"), 2);
        Check.define(book, 0, LAST, 3);
        Check.same("aaaaa", book.reason(0, 0), 2);
        Check.same("hotel", book.reason(0, Check.code("hotel")), 2);
        Check.same("zzzzz", book.reason(0, LAST), 2);
        Check.same("another book", book.reason(1, LAST), 0);
        book.drop(0, 2);
        Check.same("zzzzz is dropped", book.reason(0, LAST), 0);
    }

    /** "3, the code word of an entry differs from it in one letter alone" (each place, by 1 and by 25) */
    private static void fitsOneLetter() {
        WireBook book = new WireBook();
        Check.define(book, 0, Check.code("aaaaa"), 1);
        Check.define(book, 1, Check.code("zzzzz"), 2);
        Check.define(book, 2, Check.code("mmmmm"), 3);
        String[] nearA = {"baaaa", "abaaa", "aabaa", "aaaba", "aaaab", "zaaaa", "azaaa", "aazaa", "aaaza", "aaaaz"};
        String[] nearZ = {"yzzzz", "zyzzz", "zzyzz", "zzzyz", "zzzzy", "azzzz", "zazzz", "zzazz", "zzzaz", "zzzza"};
        String[] nearM = {"lmmmm", "mnmmm", "mmlmm", "mmmnm", "mmmml", "ammmm", "mzmmm", "mmamm", "mmmzm", "mmmma"};
        for (int at = 0; at < nearA.length; at++) {
            Check.same(nearA[at], book.reason(0, Check.code(nearA[at])), 3);
            Check.same(nearZ[at], book.reason(1, Check.code(nearZ[at])), 3);
            Check.same(nearM[at], book.reason(2, Check.code(nearM[at])), 3);
        }
    }

    /** "in one letter alone" (two letters are too many, be the numbers beside each other) */
    private static void fitsTwoLetters() {
        WireBook book = new WireBook();
        Check.define(book, 0, Check.code("aaaaz"), 1);
        Check.define(book, 1, Check.code("aazzz"), 2);
        Check.same("aaaba is 1 more than aaaaz", book.reason(0, Check.code("aaaba")), 0);
        Check.same("abaaa is 1 more than aazzz", book.reason(1, Check.code("abaaa")), 0);
        Check.define(book, 2, Check.code("aaaaa"), 3);
        for (int one = 0; one < 5; one++) {
            for (int other = one + 1; other < 5; other++) {
                StringBuilder letters = new StringBuilder("aaaaa");
                letters.setCharAt(one, 'b');
                letters.setCharAt(other, 'b');
                Check.same(letters.toString(), book.reason(2, Check.code(letters.toString())), 0);
            }
        }
    }

    /** "4, the code word of an entry becomes it, when two letters beside each other change places" */
    private static void fitsSwapped() {
        WireBook book = new WireBook();
        Check.define(book, 0, Check.code("azbyc"), 1);
        String[] swapped = {"zabyc", "abzyc", "azybc", "azbcy"};
        for (String letters : swapped) {
            Check.same(letters, book.reason(0, Check.code(letters)), 4);
        }
        // Two equal letters that change places leave the code word as it is: reason 2, not 4.
        Check.define(book, 1, Check.code("aazzb"), 1);
        Check.same("aazzb itself", book.reason(1, Check.code("aazzb")), 2);
        Check.same("azazb", book.reason(1, Check.code("azazb")), 4);
        // abbaa is one letter away from abaaa, baaaa becomes it: the first reason is 3, in either order.
        Check.define(book, 2, Check.code("baaaa"), 1);
        Check.same("4 alone", book.reason(2, Check.code("abaaa")), 4);
        Check.define(book, 2, Check.code("abbaa"), 2);
        Check.same("3 ahead of 4", book.reason(2, Check.code("abaaa")), 3);
        book.drop(2, 0);
        Check.define(book, 2, Check.code("baaaa"), 1);
        Check.same("3 ahead of 4, the other way round", book.reason(2, Check.code("abaaa")), 3);
    }

    /** "two letters beside each other" (not farther apart, not two pairs, and the last is not beside the first) */
    private static void fitsSwappedFarApart() {
        WireBook book = new WireBook();
        Check.define(book, 0, Check.code("azbyc"), 1);
        String[] unlike = {"bzayc", "aybzc", "azcyb", "yzbac", "acbyz", "czbya", "zbayc", "zaybc", "zabcy", "abzcy"};
        for (String letters : unlike) {
            Check.same(letters, book.reason(0, Check.code(letters)), 0);
        }
        String[] garbledToo = {"zabyd", "abzya", "bzybc", "aabcy"};
        for (String letters : garbledToo) {
            Check.same(letters, book.reason(0, Check.code(letters)), 0);
        }
    }
}
