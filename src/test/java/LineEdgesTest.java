/** Promises 1 to 7: each sentence that names a boundary case has a test of its own, which quotes it. */
final class LineEdgesTest {
    public static void main(String[] args) {
        newBooks();
        newLine();
        newMessage();
        newKeptLines();
        newObjectsApart();
        sayCounts();
        sayRefusesWords();
        sayRefusesThe41st();
        emptyTellsHowMany();
        emptyEmptiesTheLineAlone();
        wordsCounts();
        wordAtEnds();
        wordAtBehindAShorterLine();
        keepEmptiesTheLine();
        keepsTwelve();
        keepRefusesNothing();
        keepsShortAndLong();
        recallEnds();
        recallInThePlace();
        recalledIsKeptStill();
        Check.end();
    }

    /** 1: "Creates three empty books" */
    private static void newBooks() {
        for (int number = 0; number < 3; number++) {
            WireBook book = new WireBook();
            int asked = number;
            Check.same("entries", book.entries(number), 0);
            Check.same("nothing is found", book.find(number, 0), -1);
            Check.same("aaaaa fits", book.reason(number, 0), 0);
            Check.fails("no entry", Check.INDEX, () -> book.entry(asked, 0, -1));
            Check.refuses(book, "nothing to drop", Check.INDEX, () -> book.drop(asked, 0));
        }
    }

    /** 1: "an empty line" */
    private static void newLine() {
        WireBook book = new WireBook();
        Check.line("new", book);
        Check.same("nothing to empty", book.empty(), 0);
    }

    /** 1: "an empty message" (which was not read) */
    private static void newMessage() {
        WireBook book = new WireBook();
        Check.message("new", book);
        Check.same("cost", book.cost(), 0);
        Check.same("time", book.time(), 0);
        Check.fails("no group", Check.INDEX, () -> book.group(0));
        Check.fails("none was read", Check.INDEX, () -> book.how(0));
    }

    /** 1: "and no kept lines" */
    private static void newKeptLines() {
        WireBook book = new WireBook();
        Check.refuses(book, "none to recall", Check.INDEX, () -> book.recall(0));
        Check.same("share", book.share(0), 1.0);
        Check.same("propose", book.propose(0), 0);
        book.say(1);
        Check.same("the first one", book.keep(), 1);
    }

    /** 1: "Creates" (nothing of another object) */
    private static void newObjectsApart() {
        WireBook rich = Samples.rich(1, 2, 3);
        WireBook book = new WireBook();
        rich.say(4);
        Check.same("digest", book.digest(), new WireBook().digest());
        Check.line("line", book);
        Check.message("message", book);
        Check.same("entries", book.entries(0), 0);
        Check.same("price", book.setPrice(1), 2);
    }

    /** 2: "Returns the number of its words." (the first to the 40th) */
    private static void sayCounts() {
        WireBook book = new WireBook();
        for (int count = 1; count <= 40; count++) {
            Check.same("say", book.say(count % 2 == 0 ? 0 : 9999), count);
            Check.same("the word is the last one", book.wordAt(count - 1), count % 2 == 0 ? 0 : 9999);
        }
    }

    /** 2: "Throws IllegalArgumentException if word is not 0 to 9999" */
    private static void sayRefusesWords() {
        WireBook book = new WireBook();
        int[] wrong = {-1, 10000, -9999, Integer.MIN_VALUE, Integer.MAX_VALUE};
        for (int word : wrong) {
            Check.refuses(book, "say(" + word + ")", Check.ARGUMENT, () -> book.say(word));
        }
        Check.line("nothing was said", book);
    }

    /** 2: "Throws IllegalStateException if it has 40" */
    private static void sayRefusesThe41st() {
        WireBook book = new WireBook();
        Samples.sayOften(book, 1, 39);
        Check.same("the 40th", book.say(2), 40);
        Check.refuses(book, "the 41st", Check.STATE, () -> book.say(3));
        Check.refuses(book, "the 41st, no word either", Check.ARGUMENT, () -> book.say(-1));
        Check.same("40 still", book.words(), 40);
        book.empty();
        Check.same("the first again", book.say(4), 1);
    }

    /** 3: "Returns how many words it had." (0, 1, 40) */
    private static void emptyTellsHowMany() {
        WireBook book = new WireBook();
        Check.same("none", book.empty(), 0);
        book.say(0);
        Check.same("one", book.empty(), 1);
        Samples.sayOften(book, 5, 40);
        Check.same("forty", book.empty(), 40);
        Check.same("none again", book.empty(), 0);
    }

    /** 3: "Empties the line." (the line alone) */
    private static void emptyEmptiesTheLineAlone() {
        WireBook book = Samples.rich(1, 2, 3);
        Check.same("three", book.empty(), 3);
        Check.line("nothing", book);
        String due = Samples.told(Samples.rich());
        String got = Samples.told(book);
        Check.holds("the rest stays: " + got + ", due is " + due, got.equals(due));
    }

    /** 4: "Returns the number of words on the line." (0, 1, 39, 40) */
    private static void wordsCounts() {
        WireBook book = new WireBook();
        Check.same("none", book.words(), 0);
        book.say(3);
        Check.same("one", book.words(), 1);
        Samples.sayOften(book, 3, 38);
        Check.same("39", book.words(), 39);
        book.say(3);
        Check.same("40", book.words(), 40);
        book.empty();
        Check.same("none again", book.words(), 0);
    }

    /** 5: "a place on the line, from 0", "Throws IndexOutOfBoundsException if there is no such place" */
    private static void wordAtEnds() {
        int[] sizes = {0, 1, 2, 39, 40};
        for (int size : sizes) {
            WireBook book = new WireBook();
            for (int word = 0; word < size; word++) {
                book.say(100 + word);
            }
            if (size > 0) {
                Check.same("the first of " + size, book.wordAt(0), 100);
                Check.same("the last of " + size, book.wordAt(size - 1), 99 + size);
            }
            int[] wrong = {-1, size, 41, Integer.MIN_VALUE, Integer.MAX_VALUE};
            for (int place : wrong) {
                Check.refuses(book, "place " + place + " of " + size, Check.INDEX, () -> book.wordAt(place));
            }
        }
    }

    /** 5: "if there is no such place" (where a longer line had one before) */
    private static void wordAtBehindAShorterLine() {
        WireBook book = new WireBook();
        Check.say(book, 1, 2, 3);
        book.empty();
        book.say(4);
        Check.line("one word", book, 4);
        Check.fails("place 1", Check.INDEX, () -> book.wordAt(1));
        Check.fails("place 2", Check.INDEX, () -> book.wordAt(2));
    }

    /** 6: "Keeps the line, which is empty then." */
    private static void keepEmptiesTheLine() {
        WireBook book = new WireBook();
        Check.say(book, 1, 2, 3);
        Check.same("the first kept line", book.keep(), 1);
        Check.line("empty then", book);
        Check.same("a new line", book.say(9), 1);
        book.recall(0);
        Check.line("what was kept", book, 1, 2, 3);
    }

    /** 6: "Returns the number of kept lines.", "Throws IllegalStateException if .. 12 lines are kept" */
    private static void keepsTwelve() {
        WireBook book = new WireBook();
        for (int kept = 1; kept <= 12; kept++) {
            book.say(kept);
            Check.same("kept lines", book.keep(), kept);
        }
        book.say(13);
        Check.refuses(book, "a 13th line", Check.STATE, book::keep);
        Check.line("it is on the line still", book, 13);
        Check.fails("no 13th line", Check.INDEX, () -> book.recall(12));
        Check.same("the 12th", book.recall(11), 1);
        Check.line("the 12th", book, 12);
        Check.refuses(book, "a recalled line as the 13th", Check.STATE, book::keep);
    }

    /** 6: "Throws IllegalStateException if it is empty" (never filled, emptied, kept before) */
    private static void keepRefusesNothing() {
        WireBook book = new WireBook();
        Check.refuses(book, "never filled", Check.STATE, book::keep);
        book.say(1);
        book.empty();
        Check.refuses(book, "emptied", Check.STATE, book::keep);
        book.say(1);
        book.keep();
        Check.refuses(book, "kept before", Check.STATE, book::keep);
        book.say(2);
        Check.same("the second kept line", book.keep(), 2);
    }

    /** 6: "Keeps the line" (one word, 39 and 40 words) */
    private static void keepsShortAndLong() {
        WireBook book = new WireBook();
        int[] sizes = {1, 39, 40, 1};
        for (int size : sizes) {
            for (int word = 0; word < size; word++) {
                book.say(size * 100 + word);
            }
            book.keep();
        }
        for (int kept = 0; kept < sizes.length; kept++) {
            int size = sizes[kept];
            Check.same("words of line " + kept, book.recall(kept), size);
            Check.same("words()", book.words(), size);
            Check.same("the first", book.wordAt(0), size * 100);
            Check.same("the last", book.wordAt(size - 1), size * 100 + size - 1);
        }
    }

    /** 7: "the kept line, from 0", "Throws IndexOutOfBoundsException if there is no such kept line" */
    private static void recallEnds() {
        WireBook book = new WireBook();
        book.say(9);
        Check.refuses(book, "none is kept", Check.INDEX, () -> book.recall(0));
        for (int kept = 0; kept < 12; kept++) {
            Check.keep(book, kept);
            int none = kept + 1;
            Check.refuses(book, "line " + none, Check.INDEX, () -> book.recall(none));
            Check.refuses(book, "line -1", Check.INDEX, () -> book.recall(-1));
            book.recall(kept);
            Check.line("the last line", book, kept);
        }
        book.recall(0);
        Check.line("the first line", book, 0);
        Check.refuses(book, "line 2147483647", Check.INDEX, () -> book.recall(Integer.MAX_VALUE));
        Check.refuses(book, "line -2147483648", Check.INDEX, () -> book.recall(Integer.MIN_VALUE));
    }

    /** 7: "in the place of what is there" (nothing, less, more, the same) */
    private static void recallInThePlace() {
        int[] sizes = {0, 1, 2, 40};
        for (int size : sizes) {
            WireBook book = new WireBook();
            Check.keep(book, 5, 6);
            Samples.sayOften(book, 9, size);
            Check.same("two words in the place of " + size, book.recall(0), 2);
            Check.line("two words in the place of " + size, book, 5, 6);
        }
    }

    /** 7: "it is kept still" (whatever becomes of the line then) */
    private static void recalledIsKeptStill() {
        WireBook book = new WireBook();
        Check.keep(book, 5, 6);
        Check.keep(book, 7);
        book.recall(0);
        book.say(8);
        book.empty();
        Check.say(book, 1, 1, 1);
        book.recall(0);
        Check.line("as it was", book, 5, 6);
        book.define(0, 3);
        book.recall(0);
        Check.line("though it became a phrase", book, 5, 6);
        Check.same("kept twice", book.keep(), 3);
        book.recall(2);
        Check.line("the second time", book, 5, 6);
        book.recall(1);
        Check.line("the one between", book, 7);
    }
}
