import java.math.BigInteger;
import java.util.ArrayList;
import java.util.List;

/** Promises 27 to 29: each sentence that names a boundary case has a test of its own, which quotes it. */
final class ProposalEdgesTest {
    private static final int LAST = Samples.LAST;
    private static final int[] NO_BOOKS = Samples.NO_BOOKS;

    public static void main(String[] args) {
        proposeAtLeastTwice();
        proposeGreatest();
        proposeShortest();
        proposeFirstLine();
        proposeFarthestAhead();
        proposeFirstOfFull();
        proposeNone();
        proposeInThePlace();
        proposeForAFullBook();
        proposeRefuses();
        learnAtMost();
        learnRefusesMost();
        learnRefusesBooks();
        learnFromZero();
        learnFromTheLatest();
        learnFromTheLatestThatIsLeft();
        learnEndsWithoutCodeWord();
        learnEndsWithAFullBook();
        learnEndsWithoutProposal();
        learnGreatestFirst();
        learnEmptiesTheLine();
        digestOfNothing();
        digestOfAReadMessage();
        digestWrapsAround();
        digestOfEverything();
        Check.end();
    }

    private static void proposes(String what, WireBook book, int number, int saving, int... phrase) {
        Check.same(what + ": saving", book.propose(number), saving);
        Check.line(what, book, phrase);
    }

    /** 27: "and that stand in them at least 2 times" (once in each of two lines, twice in one, once in all) */
    private static void proposeAtLeastTwice() {
        WireBook once = new WireBook();
        once.setPrice(5);
        Check.keep(once, 1, 2, 3, 4, 5, 6);
        Check.same("once", once.propose(0), 0);
        Check.keep(once, 1, 2);
        proposes("once in each of two lines", once, 0, 2 * 9, 1, 2);
        WireBook one = new WireBook();
        Check.keep(one, 1, 2, 1, 2);
        proposes("twice in one line", one, 0, 2 * 3, 1, 2);
    }

    /** 27: "the one with the greatest saving" (by 1 more than the next one, which is shorter and stands ahead) */
    private static void proposeGreatest() {
        WireBook book = new WireBook();
        Check.keep(book, 1, 2, 9, 1, 2, 8, 1, 2);
        Check.keep(book, 3, 4, 5);
        Check.keep(book, 3, 4, 5);
        proposes("10 ahead of 9", book, 0, 2 * 5, 3, 4, 5);
        book.setPrice(1);
        proposes("4 ahead of 3", book, 0, 2 * 2, 3, 4, 5);
        Check.keep(book, 7, 7, 1, 2, 6, 6, 1, 2);
        proposes("5 ahead of 4", book, 0, 5, 1, 2);
    }

    /** 27: "of several the shortest one" (be it the one that stands last) */
    private static void proposeShortest() {
        WireBook book = new WireBook();
        book.setPrice(1);
        Check.keep(book, 3, 4, 5);
        Check.keep(book, 3, 4, 5);
        Check.keep(book, 1, 2, 9, 1, 2, 8, 1, 2, 7, 1, 2);
        proposes("2 words 4 times, 3 words 2 times", book, 0, 4, 1, 2);
        WireBook longer = new WireBook();
        longer.setPrice(1);
        Check.keep(longer, 11, 12, 13, 14, 15, 11, 12, 13, 14, 15);
        Check.keep(longer, 21, 22, 23, 9, 21, 22, 23, 8, 21, 22, 23, 7, 21, 22, 23);
        proposes("3 words 4 times, 5 words 2 times", longer, 0, 8, 21, 22, 23);
    }

    /** 27: "then the one that stands first (in the first line" (be its place in that line the later one) */
    private static void proposeFirstLine() {
        WireBook book = new WireBook();
        Check.keep(book, 9, 8, 7, 3, 4);
        Check.keep(book, 1, 2, 5, 3, 4);
        Check.keep(book, 1, 2);
        proposes("place 3 of line 0 ahead of place 0 of line 1", book, 0, 2 * 3, 3, 4);
    }

    /** 27: "then farthest ahead)" (in the same line) */
    private static void proposeFarthestAhead() {
        WireBook book = new WireBook();
        Check.keep(book, 9, 3, 4, 8, 1, 2);
        Check.keep(book, 1, 2, 7, 3, 4);
        proposes("place 1 ahead of place 4", book, 0, 2 * 3, 3, 4);
        WireBook beside = new WireBook();
        Check.keep(beside, 5, 6, 7);
        Check.keep(beside, 6, 7, 0, 5, 6);
        proposes("place 0 ahead of place 1", beside, 0, 2 * 3, 5, 6);
    }

    /** 27: "in the first line, then farthest ahead" (the end of a full line, the last line) */
    private static void proposeFirstOfFull() {
        WireBook book = new WireBook();
        for (int word = 0; word < 38; word++) {
            book.say(100 + word);
        }
        Check.say(book, 3, 4);
        book.keep();
        for (int kept = 1; kept < 11; kept++) {
            Check.keep(book, 200 + kept);
        }
        Check.keep(book, 3, 4);
        proposes("at the end of a full line and in the 12th", book, 0, 2 * 3, 3, 4);
    }

    /** 27: "0 if there is none (the line stays then)" (nothing kept, nothing twice, an entry has it) */
    private static void proposeNone() {
        WireBook book = new WireBook();
        Samples.sayOften(book, 6, 40);
        Check.same("nothing kept", book.propose(0), 0);
        Check.same("40 words stay", book.words(), 40);
        Check.keep(book, 1, 2);
        Check.say(book, 6, 7);
        proposes("nothing twice", book, 0, 0, 6, 7);
        Check.keep(book, 1, 2);
        Check.define(book, 0, 5, 1, 2);
        proposes("an entry has it", book, 0, 0);
        Check.say(book, 8);
        proposes("an entry has it", book, 0, 0, 8);
    }

    /** 27: "It is put on the line, in the place of what is there." (nothing, 40 words; nothing else changes) */
    private static void proposeInThePlace() {
        int[] sizes = {0, 2, 40};
        for (int size : sizes) {
            WireBook book = Samples.rich();
            Samples.sayOften(book, 9, size);
            proposes("in the place of " + size, book, 0, 2 * 11, 1, 2, 3);
            String got = Samples.told(book);
            String due = Samples.told(Samples.rich(1, 2, 3));
            Check.holds("the rest stays: " + got + ", due is " + due, got.equals(due));
        }
    }

    /** 27: "Proposes a phrase for a book" (for a full one too) */
    private static void proposeForAFullBook() {
        WireBook book = new WireBook();
        Samples.fill(book, 0, 40);
        Check.keep(book, 101, 102);
        Check.keep(book, 101, 102);
        proposes("40 entries", book, 0, 2 * 3, 101, 102);
    }

    /** 27: "Throws IndexOutOfBoundsException if there is no such book" */
    private static void proposeRefuses() {
        WireBook book = Samples.rich(7, 8);
        for (int number : NO_BOOKS) {
            Check.refuses(book, "book " + number, Check.INDEX, () -> book.propose(number));
        }
        Check.line("the line stays", book, 7, 8);
    }

    /** Two lines of these 40 words: 35 phrases of six words stand in them twice, then 36 of five words, and so on. */
    private static WireBook keptTwice() {
        WireBook book = new WireBook();
        for (int word = 0; word < 40; word++) {
            book.say(word);
        }
        book.keep();
        book.recall(0);
        book.keep();
        return book;
    }

    /** 28: "at most so many" (1, 2, 39, 40) */
    private static void learnAtMost() {
        int[] most = {1, 2, 39, 40};
        for (int many : most) {
            WireBook book = keptTwice();
            Check.same("learned", book.learn(1, many), many);
            Check.same("entries", book.entries(1), many);
            Check.phrase("the first", book, 1, 0, 0, 0, 1, 2, 3, 4, 5);
            Check.same("the last", book.entry(1, many - 1, 0), many <= 35 ? many - 1 : many - 36);
        }
    }

    /** 28: "Throws IllegalArgumentException if most is not 1 to 40" */
    private static void learnRefusesMost() {
        WireBook book = keptTwice();
        book.say(9);
        int[] wrong = {0, 41, -1, Integer.MIN_VALUE, Integer.MAX_VALUE};
        for (int most : wrong) {
            Check.refuses(book, "most " + most, Check.ARGUMENT, () -> book.learn(0, most));
        }
        Check.line("the line stays", book, 9);
        Check.same("no entries", book.entries(0), 0);
    }

    /** 28: "Throws IndexOutOfBoundsException if there is no such book" (ahead of most) */
    private static void learnRefusesBooks() {
        WireBook book = keptTwice();
        book.say(9);
        for (int number : NO_BOOKS) {
            Check.refuses(book, "book " + number, Check.INDEX, () -> book.learn(number, 40));
            Check.refuses(book, "book " + number + " and most 0", Check.INDEX, () -> book.learn(number, 0));
            Check.refuses(book, "book " + number + " and most 41", Check.INDEX, () -> book.learn(number, 41));
        }
    }

    /** 28: "(from 0 on, if there is none)" (a new book, one whose entries were dropped) */
    private static void learnFromZero() {
        WireBook book = keptTwice();
        book.learn(0, 1);
        Check.same("a new book", book.entry(0, 0, -1), 0);
        Check.define(book, 0, 5000000, 77);
        book.drop(0, 0);
        book.drop(0, 0);
        book.learn(0, 1);
        Check.same("an emptied book", book.entry(0, 0, -1), 0);
    }

    /** 28: "with the first code word that fits from the code word of the latest entry on" (not of the greatest) */
    private static void learnFromTheLatest() {
        WireBook book = keptTwice();
        Check.define(book, 0, Check.code("mmmmm"), 77);
        Check.define(book, 0, Check.code("bbbbb"), 78);
        Check.same("two", book.learn(0, 2), 2);
        Check.same("from bbbbb on", book.entry(0, 2, -1), Check.code("bbbca"));
        Check.same("from bbbca on", book.entry(0, 3, -1), Check.code("bbbdc"));
    }

    /** 28: "from the code word of the latest entry on" (once the last one was dropped, of the one ahead of it) */
    private static void learnFromTheLatestThatIsLeft() {
        WireBook book = keptTwice();
        Check.define(book, 0, Check.code("bbbbb"), 77);
        Check.define(book, 0, Check.code("mmmmm"), 78);
        book.drop(0, 1);
        Check.same("one", book.learn(0, 1), 1);
        Check.same("from bbbbb on", book.entry(0, 1, -1), Check.code("bbbca"));
    }

    /** 28: "it ends when there is no such code word" (though there is a proposal, and room) */
    private static void learnEndsWithoutCodeWord() {
        WireBook book = keptTwice();
        Check.define(book, 0, LAST, 77);
        Check.same("none behind zzzzz", book.learn(0, 40), 0);
        Check.same("one entry", book.entries(0), 1);
        Check.line("the line is empty then", book);
        Check.define(book, 1, Check.code("zzzxx"), 77);
        // zzzya, then zzzzb; behind zzzzb nothing fits.
        Check.same("two behind zzzxx", book.learn(1, 40), 2);
        Check.same("the first", book.entry(1, 1, -1), Check.code("zzzya"));
        Check.same("the second", book.entry(1, 2, -1), Check.code("zzzzb"));
        Check.same("no more", book.learn(1, 1), 0);
        Check.line("the line is empty then too", book);
    }

    /** 28: "or the book is full" (filled by it, full before, room for one) */
    private static void learnEndsWithAFullBook() {
        WireBook book = keptTwice();
        Samples.fill(book, 0, 39);
        Check.same("room for one", book.learn(0, 40), 1);
        Check.same("40 entries", book.entries(0), 40);
        book.say(9);
        Check.same("no room", book.learn(0, 40), 0);
        Check.line("the line is empty then", book);
        Check.same("40 entries still", book.entries(0), 40);
        Check.same("there is a proposal still", book.propose(0), 22);
        book.drop(0, 0);
        Check.same("room for one again", book.learn(0, 1), 1);
    }

    /** 28: "as long as there is a proposal" (none at all; less than most) */
    private static void learnEndsWithoutProposal() {
        WireBook none = new WireBook();
        Check.same("nothing kept", none.learn(0, 40), 0);
        Check.keep(none, 1, 2, 3);
        Check.same("nothing twice", none.learn(0, 1), 0);
        WireBook one = new WireBook();
        Check.keep(one, 1, 2);
        Check.keep(one, 1, 2);
        Check.same("one proposal", one.learn(0, 40), 1);
        Check.phrase("it became an entry", one, 0, 0, 0, 1, 2);
        Check.same("none is left", one.learn(0, 40), 0);
        Check.same("another book", one.learn(2, 40), 1);
    }

    /** 28: "as long as there is a proposal, it becomes an entry" (at the price that holds, the greatest one first) */
    private static void learnGreatestFirst() {
        for (int price = 1; price <= 2; price++) {
            WireBook book = new WireBook();
            book.setPrice(price);
            Check.keep(book, 3, 4, 5, 6, 3, 4, 5, 7, 3, 4, 5);
            Check.keep(book, 1, 2, 6, 1, 2, 7, 1, 2, 8, 1, 2, 9, 1, 2);
            // At price 1: 1 2 saves 5 * 1, 3 4 5 saves 3 * 2; at price 2: both 15, and 1 2 is the shorter one.
            Check.same("two", book.learn(0, 2), 2);
            Check.same("first at price " + price, book.entry(0, 0, 0), price == 1 ? 3 : 1);
            Check.same("second at price " + price, book.entry(0, 1, 0), price == 1 ? 1 : 3);
        }
        WireBook dear = new WireBook();
        Check.keep(dear, 3, 4, 5, 1, 2, 0, 1, 2);
        Check.keep(dear, 3, 4, 5, 6, 1, 2);
        Check.same("10 ahead of 9", dear.learn(0, 1), 1);
        Check.phrase("10 ahead of 9", dear, 0, 0, 0, 3, 4, 5);
        dear.setPrice(1);
        Check.same("3 ahead of 2", dear.learn(0, 1), 1);
        Check.phrase("3 ahead of 2", dear, 0, 1, 27, 1, 2);
    }

    /** 28: "The line is empty then." (whatever was there, be there anything to learn or not) */
    private static void learnEmptiesTheLine() {
        int[] sizes = {0, 1, 40};
        for (int size : sizes) {
            WireBook book = new WireBook();
            Samples.sayOften(book, 9, size);
            Check.same("nothing to learn", book.learn(0, 1), 0);
            Check.line("nothing to learn", book);
            Check.keep(book, 1, 2);
            Check.keep(book, 1, 2);
            Samples.sayOften(book, 9, size);
            Check.same("one to learn", book.learn(0, 1), 1);
            Check.line("one to learn", book);
        }
    }

    /** The numbers of promise 29, for their checksum as the document tells it, but with integers without an end. */
    private static BigInteger sum(List<Long> numbers) {
        BigInteger sum = BigInteger.valueOf(379);
        for (long number : numbers) {
            sum = sum.multiply(BigInteger.valueOf(31)).add(BigInteger.valueOf(number));
        }
        return sum;
    }

    private static BigInteger sum(long... numbers) {
        List<Long> row = new ArrayList<>();
        for (long number : numbers) {
            row.add(number);
        }
        return sum(row);
    }

    /** 29: "A number d starts with 379" (and of all that is empty the number 0 follows) */
    private static void digestOfNothing() {
        Check.same("new", new WireBook().digest(), sum(2, 0, 0, 0, 0, 0, 0).longValueExact());
    }

    /** 29: "for each of the following numbers x" (how the message was read is none of them) */
    private static void digestOfAReadMessage() {
        WireBook book = Samples.messageOf(7);
        long before = book.digest();
        Check.same("lost", book.decode(0), 1);
        Check.same("after a lost group", book.digest(), before);
        book.decode(2);
        book.empty();
        Check.same("after a group that was had", book.digest(), before);
        Check.same("the numbers", before, sum(2, 0, 0, 0, 1, 7, 2, 1, 2, 1, 7, 0).longValue());
    }

    /** 29: "which wraps around as a 64-bit integer" (the last sum that does not, and the next ones, on both sides) */
    private static void digestWrapsAround() {
        WireBook book = new WireBook();
        BigInteger most = BigInteger.valueOf(Long.MAX_VALUE);
        boolean stayed = false;
        boolean wrapped = false;
        boolean negative = false;
        List<Long> numbers = new ArrayList<>(List.of(2L, 0L));
        for (int words = 0; words <= 40; words++) {
            List<Long> all = new ArrayList<>(numbers);
            all.addAll(List.of(0L, 0L, 0L, 0L, 0L));
            BigInteger due = sum(all);
            Check.same("with " + words + " words", book.digest(), due.longValue());
            stayed |= due.compareTo(most) <= 0;
            wrapped |= due.compareTo(most) > 0;
            negative |= due.longValue() < 0;
            if (words < 40) {
                book.say(9999 - words);
                numbers.add((long) (9999 - words));
                numbers.set(1, (long) (words + 1));
            }
        }
        Check.holds("some sums are small, some wrap around, some are negative then", stayed && wrapped && negative);
    }

    /** 29: "for each of the following numbers x" (books full, kept lines full, message and line full) */
    private static void digestOfEverything() {
        WireBook book = keptTwice();
        book.setPrice(5);
        List<Long> numbers = new ArrayList<>(List.of(5L, 40L));
        for (long word = 0; word < 40; word++) {
            numbers.add(word);
        }
        Check.same("40 learned", book.learn(2, 40), 40);
        numbers.addAll(List.of(0L, 0L, 40L));
        for (int entry = 0; entry < 40; entry++) {
            int first = entry < 35 ? entry : entry - 35;
            int size = entry < 35 ? 6 : 5;
            numbers.add((long) book.entry(2, entry, -1));
            numbers.add((long) size);
            for (int word = 0; word < size; word++) {
                numbers.add((long) (first + word));
            }
        }
        book.recall(0);
        book.encode(0);
        numbers.add(40L);
        for (long word = 0; word < 40; word++) {
            numbers.add(-1 - word);
        }
        numbers.add(2L);
        for (int kept = 0; kept < 2; kept++) {
            numbers.add(40L);
            for (long word = 0; word < 40; word++) {
                numbers.add(word);
            }
        }
        Check.same("everything", book.digest(), sum(numbers).longValue());
    }
}
