/** Promises 27 to 29: proposals, learning, the checksum. */
final class ProposalsTest {
    private static final int LAST = 11881375;
    private static final int[] NO_BOOKS = {-1, 3, Integer.MIN_VALUE, Integer.MAX_VALUE};

    public static void main(String[] args) {
        propose();
        proposeTies();
        proposeWithoutOverlapping();
        learn();
        learnWithoutCodeWord();
        learnUntilFull();
        digest();
        Check.end();
    }

    private static void propose() {
        WireBook book = new WireBook();
        Check.say(book, 8, 8);
        Check.same("27: nothing kept", book.propose(0), 0);
        Check.line("27: the line stays", book, 8, 8);
        Check.keep(book, 1, 2, 3);
        Check.same("27: once is not 2 times", book.propose(0), 0);
        Check.keep(book, 1, 2, 3);
        Check.keep(book, 1, 2);
        Check.say(book, 9);
        // 1 2 stands 3 times: 3 * (2 * 2 - 1) = 9; 1 2 3 stands 2 times: 2 * (3 * 2 - 1) = 10.
        Check.same("27: the greatest saving", book.propose(0), 10);
        Check.line("27: in the place of what is there", book, 1, 2, 3);
        book.setPrice(1);
        Check.same("27: at price 1, 3 * 1 is less than 2 * 2", book.propose(0), 4);
        Check.keep(book, 1, 2);
        Check.same("27: 4 * 1 is as much: the shortest", book.propose(0), 4);
        Check.line("27: the shortest", book, 1, 2);
        book.define(0, 0);
        Check.same("27: not what an entry has", book.propose(0), 4);
        Check.line("27: the next one", book, 1, 2, 3);
        book.define(0, 27);
        Check.same("27: and then", book.propose(0), 2);
        Check.line("27: and then", book, 2, 3);
        Check.same("27: another book", book.propose(1), 4);
        Check.line("27: another book", book, 1, 2);
        book.define(0, 54);
        Check.same("27: what is left", book.propose(0), 2);
        for (int wrong : NO_BOOKS) {
            Check.refuses(book, "27: book " + wrong, Check.INDEX, () -> book.propose(wrong));
        }
        sixWordsAtMost();
    }

    private static void sixWordsAtMost() {
        WireBook book = new WireBook();
        Check.keep(book, 1, 2, 3, 4, 5, 6, 7);
        Check.keep(book, 1, 2, 3, 4, 5, 6, 7);
        Check.same("27: six words at most", book.propose(0), 22);
        Check.line("27: farthest ahead", book, 1, 2, 3, 4, 5, 6);
        book.define(0, 0);
        Check.same("27: the other six", book.propose(0), 22);
        Check.line("27: the other six", book, 2, 3, 4, 5, 6, 7);
    }

    private static void proposeTies() {
        WireBook book = new WireBook();
        Check.keep(book, 9);
        Check.keep(book, 5, 6, 0, 3, 4);
        Check.keep(book, 3, 4, 1, 5, 6);
        Check.same("27: tie", book.propose(0), 6);
        Check.line("27: farthest ahead in the first line", book, 5, 6);
        WireBook lines = new WireBook();
        Check.keep(lines, 1, 1, 1, 3, 4);
        Check.keep(lines, 5, 6);
        Check.keep(lines, 5, 6, 7, 3, 4);
        Check.same("27: tie of lines", lines.propose(0), 6);
        Check.line("27: in the first line", lines, 3, 4);
    }

    private static void proposeWithoutOverlapping() {
        WireBook book = new WireBook();
        Check.keep(book, 4, 4, 4);
        Check.same("27: 4 4 stands just once in 4 4 4", book.propose(0), 0);
        Check.keep(book, 4, 4, 4, 4, 4);
        // 4 4 stands 1 + 2 times: 9; 4 4 4 stands 1 + 1 times: 10.
        Check.same("27: 4 4 4", book.propose(0), 10);
        Check.line("27: 4 4 4", book, 4, 4, 4);
        book.define(0, 0);
        Check.same("27: 4 4", book.propose(0), 9);
        WireBook edges = new WireBook();
        Check.keep(edges, 1, 2);
        Check.keep(edges, 1, 2);
        Check.keep(edges, 1, 2);
        Check.same("27: no phrase reaches into the next line", edges.propose(0), 9);
        edges.define(0, 0);
        Check.same("27: 2 1 stands in no line", edges.propose(0), 0);
        fullLines();
    }

    /** Lines without a gap behind them: what ends one and what begins the next are no phrase. */
    private static void fullLines() {
        WireBook book = new WireBook();
        for (int kept = 0; kept < 12; kept++) {
            book.say(7777);
            for (int word = 1; word < 39; word++) {
                book.say(kept * 100 + word);
            }
            book.say(8888);
            book.keep();
        }
        Check.same("27: full lines", book.propose(0), 0);
        firstPlaceIsInOneLine();
    }

    /** 8 7 and 3 0 stand first behind 5 6: neither the edge of two lines nor the end of a line is a place of theirs. */
    private static void firstPlaceIsInOneLine() {
        WireBook full = new WireBook();
        for (int word = 100; word < 139; word++) {
            full.say(word);
        }
        full.say(8);
        full.keep();
        Check.keep(full, 7, 5, 6);
        Check.keep(full, 5, 6, 8, 7);
        Check.keep(full, 8, 7);
        Check.same("27: tie at the edge of two lines", full.propose(0), 6);
        Check.line("27: tie at the edge of two lines", full, 5, 6);
        WireBook brief = new WireBook();
        Check.keep(brief, 3);
        Check.keep(brief, 5, 6);
        Check.keep(brief, 5, 6, 3, 0);
        Check.keep(brief, 3, 0);
        Check.same("27: tie at the end of a line", brief.propose(0), 6);
        Check.line("27: tie at the end of a line", brief, 5, 6);
    }

    private static void learn() {
        WireBook book = new WireBook();
        book.say(3);
        Check.same("28: no proposal", book.learn(0, 40), 0);
        Check.line("28: the line is empty then", book);
        Check.keep(book, 1, 2, 3);
        Check.keep(book, 1, 2, 3);
        int[] most = {0, 41, -1, Integer.MIN_VALUE, Integer.MAX_VALUE};
        book.say(6);
        for (int wrong : most) {
            Check.refuses(book, "28: most " + wrong, Check.ARGUMENT, () -> book.learn(0, wrong));
        }
        for (int wrong : NO_BOOKS) {
            Check.refuses(book, "28: book " + wrong, Check.INDEX, () -> book.learn(wrong, 0));
        }
        Check.same("28: one at most", book.learn(0, 1), 1);
        Check.line("28: the line is empty then", book);
        Check.phrase("28: from 0 on", book, 0, 0, 0, 1, 2, 3);
        Check.same("28: the others", book.learn(0, 40), 2);
        Check.phrase("28: from the latest on", book, 0, 1, Check.code("aaabb"), 1, 2);
        Check.phrase("28: from the latest on", book, 0, 2, Check.code("aaacc"), 2, 3);
        Check.same("28: none left", book.learn(0, 40), 0);
        Check.define(book, 1, Check.code("hotel"), 9);
        Check.define(book, 1, Check.code("cable"), 10);
        Check.same("28: into another book", book.learn(1, 2), 2);
        Check.phrase("28: from cable on", book, 1, 2, Check.code("cabma"), 1, 2, 3);
        Check.same("28: as firstFit() tells it", book.entry(1, 3, -1), Check.code("cabnb"));
    }

    private static void learnWithoutCodeWord() {
        WireBook book = new WireBook();
        Check.keep(book, 1, 2, 3);
        Check.keep(book, 1, 2, 3);
        Check.define(book, 0, LAST, 5);
        book.say(4);
        Check.same("28: no code word behind zzzzz", book.learn(0, 40), 0);
        Check.line("28: the line is empty then", book);
        Check.same("28: one entry still", book.entries(0), 1);
        Check.define(book, 1, Check.code("zzzyx"), 5);
        Check.same("28: zzzza fits, but behind it nothing", book.learn(1, 40), 1);
        Check.phrase("28: the one that found a code word", book, 1, 1, Check.code("zzzza"), 1, 2, 3);
    }

    private static void learnUntilFull() {
        WireBook book = new WireBook();
        for (int twice = 0; twice < 2; twice++) {
            for (int word = 0; word < 40; word++) {
                book.say(word);
            }
            book.keep();
        }
        Check.same("28: forty", book.learn(0, 40), 40);
        Check.same("28: full", book.entries(0), 40);
        Check.same("28: the book is full", book.learn(0, 40), 0);
        for (int entry = 0; entry < 35; entry++) {
            Check.same("28: six words each", book.entry(0, entry, 5), entry + 5);
        }
        Check.phrase("28: five words then", book, 0, 35, book.entry(0, 35, -1), 0, 1, 2, 3, 4);
        book.drop(0, 0);
        Check.same("28: room for one", book.learn(0, 40), 1);
        Check.phrase("28: the dropped phrase again", book, 0, 39, book.entry(0, 39, -1), 0, 1, 2, 3, 4, 5);
    }

    private static long sum(long... numbers) {
        long sum = 379;
        for (long number : numbers) {
            sum = sum * 31 + number;
        }
        return sum;
    }

    private static void digest() {
        WireBook book = new WireBook();
        Check.same("29: new object", book.digest(), sum(2, 0, 0, 0, 0, 0, 0));
        book.setPrice(4);
        Check.say(book, 17, 0);
        Check.same("29: price and line", book.digest(), sum(4, 2, 17, 0, 0, 0, 0, 0, 0));
        book.define(1, 55);
        Check.say(book, 6);
        book.define(1, LAST);
        Check.same("29: book", book.digest(), sum(4, 0, 0, 2, 55, 2, 17, 0, LAST, 1, 6, 0, 0, 0));
        Check.say(book, 9, 6);
        book.encode(1);
        Check.same("29: message", book.digest(),
                sum(4, 2, 9, 6, 0, 2, 55, 2, 17, 0, LAST, 1, 6, 0, 2, -10, LAST, 0));
        book.keep();
        Check.keep(book, 3);
        Check.same("29: kept lines", book.digest(),
                sum(4, 0, 0, 2, 55, 2, 17, 0, LAST, 1, 6, 0, 2, -10, LAST, 2, 2, 9, 6, 1, 3));
        book.decode(0);
        long read = book.digest();
        book.decode(0);
        Check.same("29: digest() changes nothing", book.digest(), read);
        Check.same("29: how it was read is no part of it", read,
                sum(4, 1, 9, 0, 2, 55, 2, 17, 0, LAST, 1, 6, 0, 2, -10, LAST, 2, 2, 9, 6, 1, 3));
    }
}
