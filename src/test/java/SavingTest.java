/** 'Terms', "Saving.": a test for each part of its sentences that names a boundary. */
final class SavingTest {
    public static void main(String[] args) {
        twoWords();
        sixWords();
        noEntryHasIt();
        entryOfOtherLength();
        withoutOverlapping();
        eachLine();
        behindTheLastWord();
        fromTheBeginning();
        wordsTimesPrice();
        allThatCanBeKept();
        Check.end();
    }

    private static void proposes(String what, WireBook book, int number, int saving, int... phrase) {
        Check.same(what + ": saving", book.propose(number), saving);
        Check.line(what, book, phrase);
    }

    /** "A phrase of 2 to 6 words" (one word is no such phrase) */
    private static void twoWords() {
        WireBook book = new WireBook();
        book.setPrice(5);
        Check.keep(book, 7);
        Check.keep(book, 7);
        Check.keep(book, 7);
        Check.same("a word alone is not proposed", book.propose(0), 0);
        Check.keep(book, 7, 8);
        Check.same("two words once", book.propose(0), 0);
        Check.keep(book, 7, 8);
        proposes("two words", book, 0, 2 * 9, 7, 8);
    }

    /** "A phrase of 2 to 6 words" (seven are too many, though they would save more) */
    private static void sixWords() {
        WireBook book = new WireBook();
        Check.keep(book, 1, 2, 3, 4, 5, 6);
        Check.keep(book, 1, 2, 3, 4, 5, 6);
        proposes("six words", book, 0, 2 * 11, 1, 2, 3, 4, 5, 6);
        Check.keep(book, 11, 12, 13, 14, 15, 16, 17);
        Check.keep(book, 11, 12, 13, 14, 15, 16, 17);
        book.recall(0);
        book.define(0, 0);
        proposes("six of seven words", book, 0, 2 * 11, 11, 12, 13, 14, 15, 16);
    }

    /** "that no entry of the book has" (the last of 40 too; not one of another book) */
    private static void noEntryHasIt() {
        WireBook book = new WireBook();
        Check.keep(book, 1, 2);
        Check.keep(book, 1, 2);
        Samples.fill(book, 0, 39);
        Check.define(book, 0, Samples.codeOf(39), 1, 2);
        Check.say(book, 4, 4);
        proposes("book 0 has it in entry 39", book, 0, 0, 4, 4);
        proposes("book 1 has it not", book, 1, 2 * 3, 1, 2);
        book.drop(0, 39);
        proposes("dropped", book, 0, 2 * 3, 1, 2);
        Check.define(book, 1, 5, 1, 2);
        Check.say(book, 4);
        proposes("book 1 has it in entry 0", book, 1, 0, 4);
    }

    /** "that no entry of the book has" (one that begins like it, one that it begins like, one that is turned round) */
    private static void entryOfOtherLength() {
        WireBook book = new WireBook();
        Check.keep(book, 1, 2);
        Check.keep(book, 1, 2);
        Check.define(book, 0, 0, 1);
        Check.define(book, 0, 27, 1, 2, 3);
        Check.define(book, 0, 54, 2, 1);
        Check.define(book, 0, 81, 1, 3);
        Check.define(book, 0, 108, 1, 2, 0);
        proposes("none of them is 1 2", book, 0, 2 * 3, 1, 2);
        WireBook dropped = new WireBook();
        Check.keep(dropped, 1, 2);
        Check.keep(dropped, 1, 2);
        Check.define(dropped, 0, 0, 1, 2);
        dropped.drop(0, 0);
        Check.define(dropped, 0, 0, 1);
        proposes("an entry that is dropped has nothing", dropped, 0, 2 * 3, 1, 2);
    }

    /** "without overlapping" */
    private static void withoutOverlapping() {
        WireBook book = new WireBook();
        Check.keep(book, 4, 4, 4);
        Check.same("4 4 once in 4 4 4", book.propose(0), 0);
        WireBook four = new WireBook();
        Check.keep(four, 4, 4, 4, 4);
        proposes("4 4 twice in 4 4 4 4", four, 0, 2 * 3, 4, 4);
        WireBook five = new WireBook();
        Check.keep(five, 1, 2, 1, 2, 1);
        proposes("1 2 1 once, 1 2 twice in 1 2 1 2 1", five, 0, 2 * 3, 1, 2);
    }

    /** "in each line it is looked for" (what ends one line and begins the next one is no phrase) */
    private static void eachLine() {
        WireBook book = new WireBook();
        for (int kept = 0; kept < 6; kept++) {
            Check.keep(book, 1);
            Check.keep(book, 2);
        }
        Check.same("1 2 stands in no line", book.propose(0), 0);
        WireBook full = new WireBook();
        for (int kept = 0; kept < 3; kept++) {
            full.say(1);
            for (int word = 0; word < 38; word++) {
                full.say(100 * (kept + 1) + word);
            }
            full.say(2);
            full.keep();
        }
        Check.same("2 1 stands in no line", full.propose(0), 0);
        WireBook odd = new WireBook();
        Check.keep(odd, 4, 4, 4);
        Check.keep(odd, 4, 4, 4);
        // 4 4 once in each line, though six words in a row would hold it three times.
        proposes("4 4 4 in each line", odd, 0, 2 * 5, 4, 4, 4);
        odd.define(0, 0);
        proposes("4 4 in each line", odd, 0, 2 * 3, 4, 4);
    }

    /** "behind the last word of one that was found the search goes on" (right behind it) */
    private static void behindTheLastWord() {
        WireBook book = new WireBook();
        Check.keep(book, 1, 2, 3, 1, 2, 3, 1, 2, 3);
        // 1 2 3 stands 3 times: 15; 2 3 1 and 3 1 2 stand 2 times; 1 2 stands 3 times: 9.
        proposes("three in a row", book, 0, 3 * 5, 1, 2, 3);
        WireBook aba = new WireBook();
        Check.keep(aba, 1, 2, 1, 1, 2, 1);
        proposes("1 2 1 right behind 1 2 1", aba, 0, 2 * 5, 1, 2, 1);
    }

    /** "from the beginning on" (the first finding counts, so that a later one that overlaps it does not) */
    private static void fromTheBeginning() {
        WireBook book = new WireBook();
        // 1 1 2 1 1 2 1 1: from the beginning on, 1 1 2 1 1 stands once; 1 1 stands 3 times: 9; 1 1 2 twice: 10.
        Check.keep(book, 1, 1, 2, 1, 1, 2, 1, 1);
        proposes("1 1 2 twice", book, 0, 2 * 5, 1, 1, 2);
        book.define(0, 0);
        proposes("1 2 1 at places 1 and 4", book, 0, 2 * 5, 1, 2, 1);
        book.define(0, 27);
        proposes("2 1 1 at places 2 and 5", book, 0, 2 * 5, 2, 1, 1);
        book.define(0, 54);
        proposes("1 1 three times", book, 0, 3 * 3, 1, 1);
    }

    /** "Its saving is this number times (its words times the price, less 1)." (each price, 2 and 6 words) */
    private static void wordsTimesPrice() {
        for (int price = 1; price <= 5; price++) {
            WireBook book = new WireBook();
            book.setPrice(price);
            Check.keep(book, 1, 2);
            Check.keep(book, 1, 2);
            Check.keep(book, 1, 2);
            proposes("two words at " + price, book, 0, 3 * (2 * price - 1), 1, 2);
            WireBook six = new WireBook();
            six.setPrice(price);
            Check.keep(six, 1, 2, 3, 4, 5, 6);
            Check.keep(six, 1, 2, 3, 4, 5, 6);
            proposes("six words at " + price, six, 0, 2 * (6 * price - 1), 1, 2, 3, 4, 5, 6);
        }
    }

    /** "stands in the kept lines so many times" (12 lines of 40 words; the last line counts too) */
    private static void allThatCanBeKept() {
        WireBook book = new WireBook();
        Samples.keepOften(book, 7, 40);
        for (int kept = 1; kept < 12; kept++) {
            book.recall(0);
            book.keep();
        }
        // 2 words 240 times, 3 words 156 times, 4 words 120 times, 5 words 96 times, 6 words 72 times.
        proposes("at price 2", book, 0, 96 * 9, 7, 7, 7, 7, 7);
        book.setPrice(1);
        proposes("at price 1", book, 0, 96 * 4, 7, 7, 7, 7, 7);
        book.setPrice(5);
        proposes("at price 5", book, 0, 96 * 24, 7, 7, 7, 7, 7);
        book.define(0, 0);
        proposes("four words then", book, 0, 120 * 19, 7, 7, 7, 7);
        book.define(0, 27);
        proposes("three words then", book, 0, 156 * 14, 7, 7, 7);
        book.define(0, 54);
        proposes("two words then", book, 0, 240 * 9, 7, 7);
        book.define(0, 81);
        proposes("six words at last", book, 0, 72 * 29, 7, 7, 7, 7, 7, 7);
        book.define(0, 108);
        Check.same("none is left", book.propose(0), 0);
    }
}
