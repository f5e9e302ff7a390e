/** Promises 8 to 15: each sentence that names a boundary case has a test of its own, which quotes it. */
final class BookEdgesTest {
    private static final int LAST = Samples.LAST;
    private static final int[] NO_BOOKS = Samples.NO_BOOKS;
    private static final int[] NO_CODES = Samples.NO_CODES;

    public static void main(String[] args) {
        letterPlaces();
        letterRefuses();
        reasonOfFitting();
        reasonRefuses();
        firstFitThisOne();
        firstFitFarther();
        firstFitAtTheEnd();
        firstFitNone();
        firstFitRefuses();
        defineEmptiesTheLine();
        defineNumbers();
        defineRefusesWhatDoesNotFit();
        defineRefusesSizes();
        defineRefusesArguments();
        dropLeft();
        dropRefuses();
        dropThenDefine();
        entriesEnds();
        entryCodeWord();
        entryWords();
        entryBehindAShorterPhrase();
        entryRefuses();
        findEnds();
        findNone();
        findRefuses();
        Check.end();
    }

    /** 8: "a place, 0 to 4" (the first letter is the greatest part of the number) */
    private static void letterPlaces() {
        WireBook book = new WireBook();
        int weight = 1;
        for (int place = 4; place >= 0; place--) {
            for (int other = 0; other < 5; other++) {
                Check.same("z at " + place, book.letter(25 * weight, other), other == place ? 25 : 0);
                Check.same("a at " + place, book.letter(LAST - 25 * weight, other), other == place ? 0 : 25);
            }
            weight *= 26;
        }
    }

    /** 8: "Throws IllegalArgumentException if code is not 0 to 11881375", "IndexOutOfBoundsException if place .." */
    private static void letterRefuses() {
        WireBook book = Samples.rich(1);
        int[] places = {-1, 5, Integer.MIN_VALUE, Integer.MAX_VALUE};
        for (int place : places) {
            Check.fails("place " + place, Check.INDEX, () -> book.letter(LAST, place));
            Check.fails("code word and place " + place, Check.ARGUMENT, () -> book.letter(LAST + 1, place));
        }
        for (int code : NO_CODES) {
            Check.fails("code word " + code, Check.ARGUMENT, () -> book.letter(code, 4));
        }
    }

    /** 9: "Returns 0 if it fits into the book" (an empty one, one with 39 entries; nothing changes) */
    private static void reasonOfFitting() {
        WireBook book = new WireBook();
        Check.same("aaaaa into an empty book", book.reason(0, 0), 0);
        Check.same("zzzzz into an empty book", book.reason(0, LAST), 0);
        Samples.fill(book, 0, 39);
        long before = book.digest();
        Check.same("a 40th", book.reason(0, LAST), 0);
        Check.same("nothing changes", book.digest(), before);
    }

    /** 9: "Throws IndexOutOfBoundsException if there is no such book", "IllegalArgumentException if code .." */
    private static void reasonRefuses() {
        WireBook book = Samples.rich(1);
        for (int number : NO_BOOKS) {
            Check.fails("book " + number, Check.INDEX, () -> book.reason(number, 0));
            Check.fails("book " + number + " and code word", Check.INDEX, () -> book.reason(number, LAST + 1));
        }
        for (int code : NO_CODES) {
            Check.fails("code word " + code, Check.ARGUMENT, () -> book.reason(0, code));
        }
    }

    /** 10: "the first code word from this one on" (this one, if it fits; the next one, if it does not) */
    private static void firstFitThisOne() {
        WireBook book = new WireBook();
        Check.define(book, 0, Check.code("mmmmm"), 1);
        Check.same("this one", book.firstFit(0, Check.code("mmlmy")), Check.code("mmlmy"));
        Check.same("the same", book.firstFit(0, Check.code("mmmmm")), Check.code("mmmna"));
        Check.same("one letter", book.firstFit(0, Check.code("mmmna")), Check.code("mmmna"));
        Check.same("one letter, one further", book.firstFit(0, Check.code("mmmnm")), Check.code("mmmnn"));
        Check.define(book, 1, Check.code("mmmab"), 1);
        Check.same("swapped, one further", book.firstFit(1, Check.code("mmmba")), Check.code("mmmbc"));
    }

    /** 10: "but at most 2000 further" (what 39 entries can refuse in a row ends after 1027: it is found behind) */
    private static void firstFitFarther() {
        WireBook book = new WireBook();
        int plane = 676;
        for (int letter = 13; letter < 26; letter++) {
            book.say(1);
            book.define(0, plane + 27 * letter);
        }
        for (int letter = 0; letter < 26; letter++) {
            book.say(2);
            book.define(0, 2 * plane + 26 * letter + (letter + 1) % 26);
        }
        Check.same("39 entries", book.entries(0), 39);
        Check.same("1000 fits", book.firstFit(0, 1000), 1000);
        Check.same("1027 further", book.firstFit(0, 1001), 2028);
        Check.same("1026 further", book.firstFit(0, 1002), 2028);
        Check.same("1 further", book.firstFit(0, 2027), 2028);
        Check.same("from it on", book.firstFit(0, 2028), 2028);
    }

    /** 10: "-1 if there is none" (behind the last code word nothing comes, and it does not begin anew) */
    private static void firstFitAtTheEnd() {
        WireBook book = new WireBook();
        Check.same("zzzzz fits", book.firstFit(0, LAST), LAST);
        Check.define(book, 0, LAST, 1);
        Check.same("zzzzz is there", book.firstFit(0, LAST), -1);
        Check.same("zzzza to zzzzz", book.firstFit(0, Check.code("zzzza")), -1);
        Check.same("zzzyz is refused too", book.firstFit(0, Check.code("zzzyz")), -1);
        Check.same("zzzyy fits", book.firstFit(0, Check.code("zzzyy")), Check.code("zzzyy"));
        Check.define(book, 1, Check.code("zzzyz"), 1);
        Check.same("zzzzy is refused, zzzzz too", book.firstFit(1, LAST - 1), -1);
        Check.same("zzzzx fits", book.firstFit(1, LAST - 2), LAST - 2);
        WireBook last = new WireBook();
        for (int letter = 0; letter < 26; letter++) {
            last.say(1);
            last.define(2, Check.code("zzzaa") + 27 * letter);
        }
        Check.same("the last 676 are refused", last.firstFit(2, Check.code("zzzaa")), -1);
        Check.same("the one ahead of them too", last.firstFit(2, Check.code("zzyzz")), -1);
        Check.same("the one ahead of that one fits", last.firstFit(2, Check.code("zzyzz") - 2),
                Check.code("zzyzz") - 2);
    }

    /** 10: "-1 if there is none" (a full book) */
    private static void firstFitNone() {
        WireBook book = new WireBook();
        Samples.fill(book, 0, 39);
        Check.same("39 entries", book.firstFit(0, 5000000), 5000000);
        book.say(1);
        book.define(0, LAST);
        Check.same("40 entries", book.firstFit(0, 5000000), -1);
        Check.same("40 entries, from 0", book.firstFit(0, 0), -1);
        Check.same("another book", book.firstFit(1, 0), 0);
        book.drop(0, 0);
        Check.same("39 entries again", book.firstFit(0, 5000000), 5000000);
    }

    /** 10: "Throws IndexOutOfBoundsException if there is no such book", "IllegalArgumentException if from .." */
    private static void firstFitRefuses() {
        WireBook book = Samples.rich(1);
        for (int number : NO_BOOKS) {
            Check.fails("book " + number, Check.INDEX, () -> book.firstFit(number, 0));
            Check.fails("book " + number + " and from", Check.INDEX, () -> book.firstFit(number, -1));
        }
        for (int code : NO_CODES) {
            Check.fails("from " + code, Check.ARGUMENT, () -> book.firstFit(0, code));
        }
    }

    /** 11: "Makes the line the phrase of a new entry; the line is empty then." */
    private static void defineEmptiesTheLine() {
        WireBook book = new WireBook();
        Check.say(book, 4, 5);
        book.define(0, 9);
        Check.line("empty then", book);
        Check.say(book, 6, 7, 8);
        Check.phrase("the phrase does not follow the line", book, 0, 0, 9, 4, 5);
        Check.line("the line does not follow the phrase", book, 6, 7, 8);
    }

    /** 11: "Returns its number." (0 to 39; from 0 in each book) */
    private static void defineNumbers() {
        WireBook book = new WireBook();
        for (int entry = 0; entry < 40; entry++) {
            book.say(entry);
            Check.same("number", book.define(2, Samples.codeOf(entry)), entry);
        }
        book.say(1);
        Check.same("in another book", book.define(0, Samples.codeOf(39)), 0);
    }

    /** 11: "Throws IllegalStateException if the code word does not fit" (each reason, and what fits next to it) */
    private static void defineRefusesWhatDoesNotFit() {
        WireBook book = new WireBook();
        Check.define(book, 0, Check.code("azbyc"), 1);
        book.say(5);
        Check.refuses(book, "the same", Check.STATE, () -> book.define(0, Check.code("azbyc")));
        Check.refuses(book, "one letter", Check.STATE, () -> book.define(0, Check.code("azbyd")));
        Check.refuses(book, "swapped", Check.STATE, () -> book.define(0, Check.code("azbcy")));
        Check.same("two letters", book.define(0, Check.code("azbcd")), 1);
        Samples.fill(book, 1, 40);
        book.say(5);
        Check.refuses(book, "40 entries", Check.STATE, () -> book.define(1, LAST));
        Check.line("the line stays", book, 5);
    }

    /** 11: "Throws IllegalStateException if .. the line has not 1 to 6 words" */
    private static void defineRefusesSizes() {
        for (int size = 0; size <= 40; size += size == 8 ? 32 : 1) {
            WireBook book = new WireBook();
            for (int word = 0; word < size; word++) {
                book.say(word);
            }
            if (size < 1 || size > 6) {
                Check.refuses(book, size + " words", Check.STATE, () -> book.define(0, 3));
                Check.same(size + " words stay", book.words(), size);
                Check.same("no entry", book.entries(0), 0);
            } else {
                Check.same(size + " words", book.define(0, 3), 0);
                Check.same("the last of " + size, book.entry(0, 0, size - 1), size - 1);
            }
        }
    }

    /** 11: "Throws IndexOutOfBoundsException if there is no such book", "IllegalArgumentException if code .." */
    private static void defineRefusesArguments() {
        WireBook book = new WireBook();
        for (int number : NO_BOOKS) {
            Check.refuses(book, "book " + number + ", code word, line", Check.INDEX, () -> book.define(number, -1));
        }
        for (int code : NO_CODES) {
            Check.refuses(book, "code word " + code + ", line", Check.ARGUMENT, () -> book.define(0, code));
        }
        book.say(1);
        for (int number : NO_BOOKS) {
            Check.refuses(book, "book " + number, Check.INDEX, () -> book.define(number, 0));
        }
        for (int code : NO_CODES) {
            Check.refuses(book, "code word " + code, Check.ARGUMENT, () -> book.define(0, code));
        }
    }

    /** 12: "Returns the number of entries that are left." (39 to 0) */
    private static void dropLeft() {
        WireBook book = new WireBook();
        Samples.fill(book, 0, 40);
        for (int left = 39; left >= 0; left--) {
            Check.same("left", book.drop(0, left % 2 == 0 ? 0 : left), left);
        }
        Check.same("none", book.entries(0), 0);
    }

    /** 12: "Throws IndexOutOfBoundsException if there is no such book or entry" */
    private static void dropRefuses() {
        int[] sizes = {0, 1, 40};
        for (int size : sizes) {
            WireBook book = new WireBook();
            Samples.fill(book, 2, size);
            int[] wrong = {-1, size, 41, Integer.MIN_VALUE, Integer.MAX_VALUE};
            for (int entry : wrong) {
                Check.refuses(book, "entry " + entry + " of " + size, Check.INDEX, () -> book.drop(2, entry));
            }
            Check.refuses(book, "an entry of another book", Check.INDEX, () -> book.drop(1, 0));
            for (int number : NO_BOOKS) {
                Check.refuses(book, "book " + number, Check.INDEX, () -> book.drop(number, 0));
            }
            Check.same("all are there", book.entries(2), size);
        }
    }

    /** 12: "Drops an entry." (its code word fits again, and what came from it stays) */
    private static void dropThenDefine() {
        WireBook book = new WireBook();
        Check.define(book, 0, 9, 1, 2);
        Check.say(book, 1, 2, 3);
        book.encode(0);
        Check.same("none left", book.drop(0, 0), 0);
        Check.message("the message stays", book, 9, -4);
        Check.line("the line stays", book, 1, 2, 3);
        Check.same("its code word fits again", book.reason(0, 9), 0);
        Check.same("the same entry again", book.define(0, 9), 0);
        Check.phrase("with another phrase", book, 0, 0, 9, 1, 2, 3);
    }

    /** 13: "Returns the number of its entries." (0, 39, 40) and "Throws .. if there is no such book" */
    private static void entriesEnds() {
        WireBook book = new WireBook();
        Check.same("none", book.entries(2), 0);
        Samples.fill(book, 2, 39);
        Check.same("39", book.entries(2), 39);
        Check.define(book, 2, LAST, 1);
        Check.same("40", book.entries(2), 40);
        Check.same("none in book 0", book.entries(0), 0);
        for (int number : NO_BOOKS) {
            Check.refuses(book, "book " + number, Check.INDEX, () -> book.entries(number));
        }
    }

    /** 14: "-1 its code word" (the first and the last one) */
    private static void entryCodeWord() {
        WireBook book = new WireBook();
        Check.define(book, 0, 0, 9999);
        Check.define(book, 0, LAST, 0);
        Check.same("aaaaa", book.entry(0, 0, -1), 0);
        Check.same("zzzzz", book.entry(0, 1, -1), LAST);
        Check.same("word 9999", book.entry(0, 0, 0), 9999);
        Check.same("word 0", book.entry(0, 1, 0), 0);
    }

    /** 14: "0 to 5 the word of its phrase at this place" (phrases of each size) */
    private static void entryWords() {
        WireBook book = new WireBook();
        for (int size = 1; size <= 6; size++) {
            for (int word = 0; word < size; word++) {
                book.say(10 * size + word);
            }
            book.define(0, Samples.codeOf(size));
        }
        for (int size = 1; size <= 6; size++) {
            for (int word = 0; word <= 6; word++) {
                int entry = size - 1;
                int what = word;
                if (word < size) {
                    Check.same("word " + word + " of " + size, book.entry(0, entry, word), 10 * size + word);
                } else {
                    Check.fails("word " + word + " of " + size, Check.INDEX, () -> book.entry(0, entry, what));
                }
            }
        }
    }

    /** 14: "if there is no such .. word" (where a longer phrase had one before) */
    private static void entryBehindAShorterPhrase() {
        WireBook book = new WireBook();
        Check.define(book, 0, 0, 1, 2, 3, 4, 5, 6);
        book.drop(0, 0);
        Check.define(book, 0, 0, 9);
        Check.phrase("one word", book, 0, 0, 0, 9);
        Check.define(book, 0, 27, 1, 2, 3, 4, 5, 6);
        book.drop(0, 0);
        Check.phrase("six words, moved", book, 0, 0, 27, 1, 2, 3, 4, 5, 6);
        Check.fails("no seventh", Check.INDEX, () -> book.entry(0, 0, 6));
    }

    /** 14: "Throws IndexOutOfBoundsException if there is no such book, entry or word" */
    private static void entryRefuses() {
        WireBook book = new WireBook();
        Check.fails("an empty book", Check.INDEX, () -> book.entry(0, 0, -1));
        Samples.fill(book, 0, 40);
        Check.same("the 40th", book.entry(0, 39, -1), Samples.codeOf(39));
        int[] entries = {-1, 40, Integer.MIN_VALUE, Integer.MAX_VALUE};
        for (int entry : entries) {
            Check.fails("entry " + entry, Check.INDEX, () -> book.entry(0, entry, -1));
            Check.fails("word of entry " + entry, Check.INDEX, () -> book.entry(0, entry, 0));
        }
        int[] words = {-2, 1, 5, 6, Integer.MIN_VALUE, Integer.MAX_VALUE};
        for (int what : words) {
            Check.fails("what " + what, Check.INDEX, () -> book.entry(0, 39, what));
        }
        for (int number : NO_BOOKS) {
            Check.fails("book " + number, Check.INDEX, () -> book.entry(number, 0, -1));
        }
    }

    /** 15: "Returns the entry that has it" (the first and the last of 40) */
    private static void findEnds() {
        WireBook book = new WireBook();
        Samples.fill(book, 0, 40);
        for (int entry = 0; entry < 40; entry++) {
            Check.same("entry", book.find(0, Samples.codeOf(entry)), entry);
        }
    }

    /** 15: "-1 if there is none" (an empty book, one that is alike, another book, one that was dropped) */
    private static void findNone() {
        WireBook book = new WireBook();
        Check.same("an empty book, aaaaa", book.find(0, 0), -1);
        Check.define(book, 0, Check.code("azbyc"), 1);
        Check.same("one letter", book.find(0, Check.code("azbyd")), -1);
        Check.same("swapped", book.find(0, Check.code("azbcy")), -1);
        Check.same("aaaaa", book.find(0, 0), -1);
        Check.same("zzzzz", book.find(0, LAST), -1);
        Check.same("another book", book.find(1, Check.code("azbyc")), -1);
        book.drop(0, 0);
        Check.same("dropped", book.find(0, Check.code("azbyc")), -1);
    }

    /** 15: "Throws IndexOutOfBoundsException if there is no such book", "IllegalArgumentException if code .." */
    private static void findRefuses() {
        WireBook book = Samples.rich(1);
        for (int number : NO_BOOKS) {
            Check.fails("book " + number, Check.INDEX, () -> book.find(number, 0));
            Check.fails("book " + number + " and code word", Check.INDEX, () -> book.find(number, LAST + 1));
        }
        for (int code : NO_CODES) {
            Check.fails("code word " + code, Check.ARGUMENT, () -> book.find(0, code));
        }
    }
}
