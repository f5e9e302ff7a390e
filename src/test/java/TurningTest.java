/** 'Terms', "Messages" and "Turning a line into a message with a book": a test for each sentence with a boundary. */
final class TurningTest {
    private static final int A = Check.code("aaaaa");
    private static final int B = Check.code("bbbbb");
    private static final int C = Check.code("ccccc");
    private static final int D = Check.code("ddddd");
    private static final int Z = Samples.LAST;

    public static void main(String[] args) {
        fortyGroups();
        prices();
        priceAtFirst();
        emptyLine();
        oneWord();
        phraseAsLongAsTheLine();
        phraseOverTheEnd();
        leastCost();
        leastCostAheadOfLength();
        longestWhereverItStands();
        longestAtEachPlace();
        phraseAheadOfWord();
        wordAheadOfNothing();
        smallestCodeWord();
        smallestCodeWordAmongOthers();
        repeatedPhrase();
        fullBookFullLine();
        Check.end();
    }

    private static int plain(int word) {
        return -1 - word;
    }

    /** "A message is a row of at most 40 groups, each a code word or a plain word." */
    private static void fortyGroups() {
        WireBook book = new WireBook();
        Samples.sayOften(book, 9, 39);
        book.say(0);
        Check.same("40 plain words", book.encode(0), 80);
        Check.same("40 groups", book.groups(), 40);
        Check.same("the first", book.group(0), plain(9));
        Check.same("the last", book.group(39), plain(0));
        Check.fails("no 41st", Check.INDEX, () -> book.group(40));
        book.empty();
        Check.define(book, 0, Z, 9);
        Samples.sayOften(book, 9, 40);
        Check.same("40 code words", book.encode(0), 40);
        Check.same("40 groups again", book.groups(), 40);
        Check.same("the last code word", book.group(39), Z);
        Check.same("none is lost", book.decode(0), 0);
        Check.same("the 40th was read", book.how(39), 1);
        Check.fails("no 41st was read", Check.INDEX, () -> book.how(40));
    }

    /** "A group that is a code word costs 1; one that is a plain word costs the price, 1 to 5" */
    private static void prices() {
        for (int price = 1; price <= 5; price++) {
            WireBook book = new WireBook();
            Check.define(book, 0, A, 1, 2);
            book.setPrice(price);
            Check.say(book, 1, 2, 3);
            Check.same("cost at " + price, book.encode(0), 1 + price);
            Check.same("cost of plain words at " + price, book.encode(1), 3 * price);
        }
        WireBook book = new WireBook();
        Check.refuses(book, "price 0", Check.ARGUMENT, () -> book.setPrice(0));
        Check.refuses(book, "price 6", Check.ARGUMENT, () -> book.setPrice(6));
    }

    /** "the price, 1 to 5 (2, at first)" */
    private static void priceAtFirst() {
        WireBook book = new WireBook();
        book.say(5);
        Check.same("one plain word at first", book.encode(0), 2);
        Check.same("2 at first", book.setPrice(5), 2);
    }

    /** "the line is divided into pieces" (an empty one into none, in the place of the message that was there) */
    private static void emptyLine() {
        WireBook book = new WireBook();
        Check.define(book, 0, A, 1);
        Check.say(book, 1, 2);
        book.encode(0);
        book.empty();
        Check.same("nothing costs nothing", book.encode(0), 0);
        Check.message("no groups", book);
        Check.same("cost()", book.cost(), 0);
        Check.same("time()", book.time(), 0);
    }

    /** "each of them one plain word, or a phrase of the book" (a line of one) */
    private static void oneWord() {
        WireBook book = new WireBook();
        book.say(7);
        Check.same("a plain word", book.encode(0), 2);
        Check.message("a plain word", book, plain(7));
        book.define(0, B);
        book.say(7);
        Check.same("a phrase of one word", book.encode(0), 1);
        Check.message("a phrase of one word", book, B);
    }

    /** "or a phrase of the book" (one that is the whole line, and the whole of its six words) */
    private static void phraseAsLongAsTheLine() {
        WireBook book = new WireBook();
        Check.define(book, 0, C, 1, 2, 3, 4, 5, 6);
        Check.say(book, 1, 2, 3, 4, 5, 6);
        Check.same("the line is the phrase", book.encode(0), 1);
        Check.message("the line is the phrase", book, C);
        book.empty();
        Check.say(book, 1, 2, 3, 4, 5, 7);
        Check.same("the sixth word is another one", book.encode(0), 12);
        book.empty();
        Check.say(book, 0, 2, 3, 4, 5, 6);
        Check.same("the first word is another one", book.encode(0), 12);
    }

    /** "or a phrase of the book" (one that would reach over the end of the line is none, whatever stood there) */
    private static void phraseOverTheEnd() {
        WireBook book = new WireBook();
        Check.define(book, 0, C, 1, 2, 3);
        Check.say(book, 1, 2, 3);
        Check.same("just to the end", book.encode(0), 1);
        book.empty();
        Check.say(book, 1, 2);
        Check.same("one word over the end", book.encode(0), 4);
        Check.message("one word over the end", book, plain(1), plain(2));
        WireBook zeros = new WireBook();
        Check.define(zeros, 0, C, 0, 0, 0, 0, 0, 0);
        Check.say(zeros, 0, 0, 0, 0, 0);
        Check.same("zeros behind the line are no words", zeros.encode(0), 10);
        WireBook full = new WireBook();
        Check.define(full, 0, C, 5, 6);
        Samples.sayOften(full, 4, 39);
        full.say(5);
        Check.same("over the end of 40 words", full.encode(0), 80);
        Check.same("the 40th is plain", full.group(39), plain(5));
        Check.keep(full, 6);
        Check.keep(full, 6);
        Check.same("kept lines are divided each for itself", full.share(0), 1.0);
    }

    /** "so that the cost of all groups together is least" */
    private static void leastCost() {
        WireBook book = new WireBook();
        Check.define(book, 0, A, 1, 2, 3);
        Check.define(book, 0, B, 3, 4, 5, 6, 7, 8);
        Check.say(book, 1, 2, 3, 4, 5, 6, 7, 8);
        // 123|4|5|6|7|8 costs 11; 1|2|345678 costs 5.
        Check.same("a shorter beginning is cheaper", book.encode(0), 5);
        Check.message("a shorter beginning is cheaper", book, plain(1), plain(2), B);
    }

    /** "of all pieces that can stand there in a division with the least cost for what is left of the line" */
    private static void leastCostAheadOfLength() {
        WireBook book = new WireBook();
        Check.define(book, 0, A, 1);
        Check.define(book, 0, B, 1, 2);
        Check.define(book, 0, C, 2, 3, 4);
        Check.say(book, 1, 2, 3, 4);
        Check.same("the longest piece is dearer", book.encode(0), 2);
        Check.message("the longest piece is dearer", book, A, C);
        Check.define(book, 0, D, 3, 4);
        Check.say(book, 1, 2, 3, 4);
        Check.same("the longest piece is as cheap now", book.encode(0), 2);
        Check.message("the longest piece is as cheap now", book, B, D);
    }

    /** "the longest one is taken" (wherever it stands in the book, be its code word smaller or greater) */
    private static void longestWhereverItStands() {
        int[][] codes = {{A, B}, {B, A}};
        for (int[] code : codes) {
            WireBook ahead = new WireBook();
            Check.define(ahead, 0, code[0], 1, 2);
            Check.define(ahead, 0, code[1], 1);
            restOfTwo(ahead);
            Check.message("the longest one came first", ahead, code[0], C);
            WireBook behind = new WireBook();
            Check.define(behind, 0, code[1], 1);
            Check.define(behind, 0, code[0], 1, 2);
            restOfTwo(behind);
            Check.message("the longest one came last", behind, code[0], C);
        }
    }

    /** 1 2 3 can be divided into 1 2 | 3 and into 1 | 2 3 then, at the same cost. */
    private static void restOfTwo(WireBook book) {
        Check.define(book, 0, C, 3);
        Check.define(book, 0, D, 2, 3);
        Check.say(book, 1, 2, 3);
        Check.same("two code words", book.encode(0), 2);
    }

    /** "From the beginning on, of all pieces .. the longest one is taken" (at each place, not at the first alone) */
    private static void longestAtEachPlace() {
        WireBook book = new WireBook();
        Check.define(book, 0, A, 5);
        Check.define(book, 0, B, 5, 5);
        Check.define(book, 0, C, 5, 5, 5);
        Check.say(book, 5, 5, 5, 5);
        Check.same("four words", book.encode(0), 2);
        Check.message("3 and 1, not 2 and 2, not 1 and 3", book, C, A);
        book.empty();
        Check.say(book, 9, 5, 5, 5, 5, 5);
        Check.same("behind a plain word", book.encode(0), 4);
        Check.message("3 and 2 behind a plain word", book, plain(9), C, B);
    }

    /** "of the same length a phrase ahead of a plain word" (which matters at the price 1 alone) */
    private static void phraseAheadOfWord() {
        WireBook book = new WireBook();
        book.setPrice(1);
        Check.define(book, 0, Z, 7);
        Check.say(book, 7, 8, 7);
        Check.same("cost", book.encode(0), 3);
        Check.message("the phrase, be its code word the last", book, Z, plain(8), Z);
    }

    /** "the longest one is taken" (at the price 1 a phrase of two words is cheaper than two plain words) */
    private static void wordAheadOfNothing() {
        WireBook book = new WireBook();
        book.setPrice(1);
        Check.define(book, 0, Z, 7, 8);
        Check.say(book, 7, 7, 8, 8);
        Check.same("cost", book.encode(0), 3);
        Check.message("plain words around", book, plain(7), Z, plain(8));
    }

    /** "of phrases the one with the smallest code word" (wherever it stands in the book) */
    private static void smallestCodeWord() {
        int[][] orders = {{A, B, Z}, {A, Z, B}, {B, A, Z}, {B, Z, A}, {Z, A, B}, {Z, B, A}};
        for (int[] order : orders) {
            WireBook book = new WireBook();
            for (int code : order) {
                Check.define(book, 0, code, 1, 2);
            }
            Check.say(book, 1, 2);
            Check.same("cost", book.encode(0), 1);
            Check.message("the smallest of three", book, A);
            book.drop(0, book.find(0, A));
            book.encode(0);
            Check.message("the smallest of two", book, B);
        }
    }

    /** "of phrases the one with the smallest code word" (others, longer and shorter ones, stand between them) */
    private static void smallestCodeWordAmongOthers() {
        WireBook book = new WireBook();
        Check.define(book, 0, Z, 1, 2);
        Check.define(book, 0, Check.code("eeeee"), 7, 8, 9);
        Check.define(book, 0, C, 1, 2);
        Check.define(book, 0, A, 7);
        Check.define(book, 0, B, 1, 2);
        Check.define(book, 0, Check.code("fffff"), 9, 9);
        Check.define(book, 0, D, 1, 2);
        Check.say(book, 1, 2);
        Check.same("cost", book.encode(0), 1);
        Check.message("the smallest of four", book, B);
    }

    /** "the line is divided into pieces" (the same phrase as often as it stands there, up to six times six words) */
    private static void repeatedPhrase() {
        WireBook book = new WireBook();
        Check.define(book, 0, B, 5, 5, 5, 5, 5, 5);
        Samples.sayOften(book, 5, 36);
        Check.same("36 words", book.encode(0), 6);
        Check.message("36 words", book, B, B, B, B, B, B);
        Samples.sayOften(book, 5, 4);
        Check.same("40 words", book.encode(0), 14);
        Check.same("the phrases stand ahead", book.group(5), B);
        Check.same("the plain words stand behind", book.group(6), plain(5));
    }

    /** "of all pieces" (the last entry of a full book at the last place of a full line too) */
    private static void fullBookFullLine() {
        WireBook book = new WireBook();
        Samples.fill(book, 0, 40);
        for (int word = 0; word < 40; word++) {
            book.say(word);
        }
        Check.same("40 code words", book.encode(0), 40);
        for (int group = 0; group < 40; group++) {
            Check.same("group " + group, book.group(group), Samples.codeOf(group));
        }
        Check.same("all are read", book.decode(0), 0);
        Check.same("the last word", book.wordAt(39), 39);
    }
}
