/** 'Terms', "Reading a message with a book": a test for each sentence with a boundary. */
final class ReadingTest {
    private static final int A = Check.code("aaaaa");
    private static final int B = Check.code("bbbbb");

    public static void main(String[] args) {
        emptyMessage();
        plainWords();
        hadByAnEntry();
        emptyBook();
        oneLetterOff();
        twoLettersBesideOff();
        twoLettersOff();
        justOne();
        twoByOneLetter();
        twoBySwapping();
        oneOfEach();
        hadAheadOfAlike();
        allLost();
        justForty();
        fortyOne();
        restOfThePhrase();
        groupsBehind();
        Check.end();
    }

    private static void read(String what, WireBook book, int number, int lost, int... words) {
        Check.same(what + ": lost", book.decode(number), lost);
        Check.line(what, book, words);
    }

    private static void hows(String what, WireBook book, int... due) {
        for (int group = 0; group < due.length; group++) {
            Check.same(what + ": how(" + group + ")", book.how(group), due[group]);
        }
        Check.fails(what + ": no more groups", Check.INDEX, () -> book.how(due.length));
    }

    /** "What is read stands on the line then" (of an empty message nothing, in the place of what is there) */
    private static void emptyMessage() {
        WireBook book = new WireBook();
        Check.say(book, 1, 2);
        read("no message yet", book, 0, 0);
        hows("no message yet", book);
    }

    /** "A group that is a plain word is read as it is." (the first and the last word, with any book) */
    private static void plainWords() {
        WireBook book = new WireBook();
        Check.say(book, 0, 9999);
        book.encode(0);
        Check.define(book, 0, 0, 5);
        book.empty();
        Check.define(book, 0, 9999, 6);
        read("0 and 9999", book, 0, 0, 0, 9999);
        hows("0 and 9999", book, 0, 0);
    }

    /** "A code word that an entry has is read as its phrase" (the first and the last entry; one and six words) */
    private static void hadByAnEntry() {
        WireBook book = new WireBook();
        Check.define(book, 0, A, 9);
        Check.define(book, 0, Samples.LAST, 1, 2, 3, 4, 5, 6);
        Check.say(book, 9, 1, 2, 3, 4, 5, 6);
        book.encode(0);
        book.empty();
        read("both entries", book, 0, 0, 9, 1, 2, 3, 4, 5, 6);
        hows("both entries", book, 1, 1);
    }

    /** "Another code word .. otherwise the group is lost." (no entry at all) */
    private static void emptyBook() {
        WireBook book = Samples.messageOf(A);
        book.say(8);
        read("a book without entries", book, 0, 1);
        hows("a book without entries", book, 3);
    }

    /** "the entries are looked for whose code words differ from it in one letter alone" (each place) */
    private static void oneLetterOff() {
        WireBook book = Samples.messageOf(Check.code("mazmz"));
        for (int place = 0; place < 5; place++) {
            for (int letter = 0; letter < 26; letter += 25) {
                int was = book.garble(0, place, letter);
                boolean same = was == letter;
                read("garbled at " + place, book, 2, 0, 1, 2);
                hows("garbled at " + place, book, same ? 1 : 2);
                book.garble(0, place, was);
            }
        }
    }

    /** "or become it when two letters beside each other change places" (each pair) */
    private static void twoLettersBesideOff() {
        WireBook book = Samples.messageOf(Check.code("azbyc"));
        for (int place = 0; place < 4; place++) {
            book.swap(0, place);
            read("swapped at " + place, book, 2, 0, 1, 2);
            hows("swapped at " + place, book, 2);
            book.swap(0, place);
        }
        read("as it was sent", book, 2, 0, 1, 2);
        hows("as it was sent", book, 1);
    }

    /** "in one letter alone" (two letters off, a swap and a letter, two swaps: nobody was meant) */
    private static void twoLettersOff() {
        WireBook book = Samples.messageOf(Check.code("azbyc"));
        book.garble(0, 0, 3);
        book.garble(0, 4, 3);
        read("two letters", book, 2, 1);
        hows("two letters", book, 3);
        WireBook other = Samples.messageOf(Check.code("azbyc"));
        other.swap(0, 0);
        other.garble(0, 4, 3);
        read("a swap and a letter", other, 2, 1);
        other.garble(0, 4, 2);
        other.swap(0, 3);
        read("two swaps", other, 2, 1);
        other.swap(0, 3);
        other.swap(0, 1);
        read("a letter carried over two places", other, 2, 1);
        other.swap(0, 0);
        read("two letters that are not beside each other", other, 2, 1);
        other.swap(0, 1);
        other.swap(0, 0);
        read("in the end two letters beside each other alone", other, 2, 0, 1, 2);
    }

    /** "if it is just one entry, its phrase is read" (the first one of many, the last one of many) */
    private static void justOne() {
        int[] entries = {0, 39};
        for (int entry : entries) {
            WireBook book = Samples.messageOf(Samples.codeOf(entry));
            Samples.fill(book, 0, 40);
            book.garble(0, 2, 25);
            read("entry " + entry + " of 40", book, 0, 0, entry);
            hows("entry " + entry + " of 40", book, 2);
        }
    }

    /** "if it is just one entry .. otherwise the group is lost" (two that differ from it in one letter) */
    private static void twoByOneLetter() {
        WireBook book = Samples.messageOf(Check.code("aaaab"));
        Check.define(book, 0, Check.code("aaaaa"), 7);
        read("one", book, 0, 0, 7);
        Check.define(book, 0, Check.code("aaabb"), 8);
        read("two", book, 0, 1);
        hows("two", book, 3);
        book.empty();
        Check.define(book, 0, Check.code("baaab"), 9);
        read("three", book, 0, 1);
        book.drop(0, 0);
        read("two again", book, 0, 1);
        book.drop(0, 1);
        read("one again, the other one", book, 0, 0, 8);
        hows("one again, the other one", book, 2);
    }

    /** "if it is just one entry .. otherwise the group is lost" (two that become it) */
    private static void twoBySwapping() {
        WireBook book = Samples.messageOf(Check.code("abcaa"));
        Check.define(book, 0, Check.code("bacaa"), 7);
        read("one", book, 0, 0, 7);
        book.empty();
        Check.define(book, 0, Check.code("acbaa"), 8);
        read("two", book, 0, 1);
        hows("two", book, 3);
        book.drop(0, 0);
        read("the other one", book, 0, 0, 8);
    }

    /** "if it is just one entry .. otherwise the group is lost" (one by a letter, one by a swap; the same phrase) */
    private static void oneOfEach() {
        WireBook book = Samples.messageOf(Check.code("abcaa"));
        Check.define(book, 0, Check.code("bacaa"), 7);
        book.empty();
        Check.define(book, 0, Check.code("abcaz"), 7);
        read("both mean the same phrase, yet there are two", book, 0, 1);
        hows("both mean the same phrase, yet there are two", book, 3);
    }

    /** "A code word that an entry has is read as its phrase" (be others like it; the message came from another book) */
    private static void hadAheadOfAlike() {
        WireBook book = new WireBook();
        Check.define(book, 0, Check.code("aaaab"), 7);
        Check.say(book, 7);
        book.encode(0);
        Check.define(book, 1, Check.code("aaaaa"), 1);
        book.empty();
        Check.define(book, 1, Check.code("aaacb"), 2);
        read("two are like it", book, 1, 1);
        book.drop(1, 1);
        book.drop(1, 0);
        Check.define(book, 1, Check.code("aaaab"), 3);
        read("an entry has it", book, 1, 0, 3);
        hows("an entry has it", book, 1);
    }

    /** "otherwise the group is lost" (each of 40 groups) */
    private static void allLost() {
        WireBook book = new WireBook();
        Check.define(book, 0, A, 9);
        Samples.sayOften(book, 9, 40);
        book.encode(0);
        Check.same("40 are lost", book.decode(1), 40);
        Check.line("40 are lost", book);
        Check.same("the first", book.how(0), 3);
        Check.same("the last", book.how(39), 3);
    }

    /** So many groups of a code word that book 1 reads as six words, then these plain words. */
    private static WireBook sixes(int codeWords, int plainWords) {
        WireBook book = new WireBook();
        Check.define(book, 0, A, 9);
        Check.define(book, 1, A, 1, 2, 3, 4, 5, 6);
        Samples.sayOften(book, 9, codeWords);
        Samples.sayOften(book, 8, plainWords);
        book.encode(0);
        book.empty();
        return book;
    }

    /** "as soon as it would have more than 40 words" (just 40 are not more) */
    private static void justForty() {
        WireBook book = sixes(6, 4);
        Check.same("none is lost", book.decode(1), 0);
        Check.same("36 and 4 words", book.words(), 40);
        Check.same("the last word of the phrases", book.wordAt(35), 6);
        Check.same("the 40th word", book.wordAt(39), 8);
        WireBook less = sixes(6, 3);
        Check.same("none is lost", less.decode(1), 0);
        Check.same("36 and 3 words", less.words(), 39);
    }

    /** "as soon as it would have more than 40 words, the rest is left out" (the 41st word) */
    private static void fortyOne() {
        WireBook book = sixes(6, 5);
        Check.same("none is lost", book.decode(1), 0);
        Check.same("36 and 5 words", book.words(), 40);
        Check.same("the 40th word", book.wordAt(39), 8);
        hows("all were read", book, 1, 1, 1, 1, 1, 1, 0, 0, 0, 0, 0);
    }

    /** "the rest is left out (also the rest of the phrase)" (what stands ahead of the rest stays) */
    private static void restOfThePhrase() {
        WireBook book = sixes(7, 0);
        Check.same("none is lost", book.decode(1), 0);
        Check.same("36 and 4 of 6 words", book.words(), 40);
        for (int place = 0; place < 40; place++) {
            Check.same("word " + place, book.wordAt(place), place % 6 + 1);
        }
        WireBook one = new WireBook();
        Check.define(one, 0, A, 9);
        Check.define(one, 1, A, 1, 2);
        Samples.sayOften(one, 8, 39);
        one.say(9);
        one.encode(0);
        one.decode(1);
        Check.same("39 and 1 of 2 words", one.words(), 40);
        Check.same("the first word of the phrase", one.wordAt(39), 1);
    }

    /** "groups behind are still read, and counted if they are lost" */
    private static void groupsBehind() {
        WireBook book = new WireBook();
        Check.define(book, 0, A, 9);
        Check.define(book, 0, B, 7);
        Check.define(book, 1, A, 1, 2, 3, 4, 5, 6);
        Check.define(book, 1, Check.code("zzzzz"), 6);
        Samples.sayOften(book, 9, 9);
        Check.say(book, 8, 7, 9, 7, 8);
        book.encode(0);
        book.garble(8, 0, 1);
        Check.same("two are lost behind", book.decode(1), 2);
        Check.same("40 words", book.words(), 40);
        hows("behind", book, 1, 1, 1, 1, 1, 1, 1, 1, 2, 0, 3, 1, 3, 0);
        Check.same("the message stays", book.groups(), 14);
    }
}
