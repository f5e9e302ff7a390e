/** Promises 16 to 26: each sentence that names a boundary case has a test of its own, which quotes it. */
final class MessageEdgesTest {
    private static final int LAST = Samples.LAST;
    private static final int[] NO_BOOKS = Samples.NO_BOOKS;

    public static void main(String[] args) {
        setPriceEnds();
        setPriceTellsTheOneBefore();
        encodeInThePlace();
        encodeLeavesTheLine();
        encodeRefuses();
        groupsEnds();
        groupTellsCodeWords();
        groupTellsWords();
        groupRefuses();
        garbleEnds();
        garbleTellsTheLetter();
        garbleRefuses();
        swapEnds();
        swapOfFirstAndLastLetters();
        swapOfEqualLetters();
        swapRefuses();
        decodeTheLineIsWhatIsRead();
        decodeTellsHowManyAreLost();
        decodeRefuses();
        howTellsTheFourWays();
        howOfTheMessageReadLast();
        howRefuses();
        costEnds();
        costOfAGarbledMessage();
        timeEnds();
        shareOfNone();
        shareOfOneLine();
        shareOfAll();
        shareRefuses();
        Check.end();
    }

    /** 16: "Throws IllegalArgumentException if price is not 1 to 5" */
    private static void setPriceEnds() {
        WireBook book = new WireBook();
        int[] wrong = {0, 6, -1, -2, Integer.MIN_VALUE, Integer.MAX_VALUE};
        for (int price = 1; price <= 5; price++) {
            book.setPrice(price);
            for (int refused : wrong) {
                Check.refuses(book, "price " + refused, Check.ARGUMENT, () -> book.setPrice(refused));
            }
            Check.same("price", book.setPrice(price), price);
        }
    }

    /** 16: "Returns the price before." (2 at first; the same one again) */
    private static void setPriceTellsTheOneBefore() {
        WireBook book = new WireBook();
        Check.same("at first", book.setPrice(5), 2);
        Check.same("5", book.setPrice(1), 5);
        Check.same("1", book.setPrice(1), 1);
        Check.same("1 again", book.setPrice(3), 1);
    }

    /** 17: "Turns the line into a message, in the place of the one that was there" (longer, shorter, none) */
    private static void encodeInThePlace() {
        WireBook book = new WireBook();
        Check.say(book, 1, 2, 3);
        Check.same("none was there", book.encode(0), 6);
        Check.message("three groups", book, -2, -3, -4);
        book.empty();
        book.say(9);
        Check.same("a longer one was there", book.encode(0), 2);
        Check.message("one group", book, -10);
        Samples.sayOften(book, 8, 39);
        Check.same("a shorter one was there", book.encode(0), 80);
        Check.same("forty groups", book.groups(), 40);
        book.empty();
        Check.same("forty were there", book.encode(0), 0);
        Check.message("no group", book);
    }

    /** 17: "the line stays" (also an empty one and one of 40 words) */
    private static void encodeLeavesTheLine() {
        int[] sizes = {0, 1, 40};
        for (int size : sizes) {
            WireBook book = new WireBook();
            Check.define(book, 0, 5, 7);
            Samples.sayOften(book, 7, size);
            Check.same("cost of " + size, book.encode(0), size);
            Check.same("words", book.words(), size);
            Check.same("again", book.encode(0), size);
        }
    }

    /** 17: "Throws IndexOutOfBoundsException if there is no such book" */
    private static void encodeRefuses() {
        WireBook book = Samples.rich(1, 2, 3);
        for (int number : NO_BOOKS) {
            Check.refuses(book, "book " + number, Check.INDEX, () -> book.encode(number));
        }
        Check.message("the message stays", book, -6, Check.code("hotel"), Check.code("bbaaa"));
    }

    /** 18: "Returns the number of groups of the message." (0, 1, 40) */
    private static void groupsEnds() {
        WireBook book = new WireBook();
        Check.same("none", book.groups(), 0);
        book.say(1);
        Check.same("not encoded yet", book.groups(), 0);
        book.encode(0);
        Check.same("one", book.groups(), 1);
        Samples.sayOften(book, 1, 39);
        Check.same("one still", book.groups(), 1);
        book.encode(0);
        Check.same("forty", book.groups(), 40);
    }

    /** 19: "Returns its code word" (the first and the last one) */
    private static void groupTellsCodeWords() {
        WireBook book = new WireBook();
        Check.define(book, 0, 0, 1);
        Check.define(book, 0, LAST, 2);
        Check.say(book, 1, 2);
        book.encode(0);
        Check.message("aaaaa and zzzzz", book, 0, LAST);
    }

    /** 19: "for a plain word -1 less the word" (the first and the last word) */
    private static void groupTellsWords() {
        WireBook book = new WireBook();
        Check.say(book, 0, 1, 9998, 9999);
        book.encode(0);
        Check.message("words", book, -1, -2, -9999, -10000);
    }

    /** 19: "a group, from 0", "Throws IndexOutOfBoundsException if there is no such group" */
    private static void groupRefuses() {
        int[] sizes = {0, 1, 40};
        for (int size : sizes) {
            WireBook book = new WireBook();
            Samples.sayOften(book, 5, size);
            book.encode(0);
            int[] wrong = {-1, size, 41, Integer.MIN_VALUE, Integer.MAX_VALUE};
            for (int group : wrong) {
                Check.refuses(book, "group " + group + " of " + size, Check.INDEX, () -> book.group(group));
            }
        }
        WireBook shorter = new WireBook();
        Check.say(shorter, 5, 5);
        shorter.encode(0);
        shorter.empty();
        shorter.say(5);
        shorter.encode(0);
        Check.fails("a longer message had group 1", Check.INDEX, () -> shorter.group(1));
    }

    /** 20: "the place, 0 to 4", "the letter that comes there" (0 to 25; the first and the last of 40 groups) */
    private static void garbleEnds() {
        WireBook book = new WireBook();
        Check.define(book, 0, 0, 9);
        Samples.sayOften(book, 9, 40);
        book.encode(0);
        int code = 0;
        int weight = 26 * 26 * 26 * 26;
        for (int place = 0; place < 5; place++) {
            Check.same("a at " + place, book.garble(39, place, 25), 0);
            code += 25 * weight;
            weight /= 26;
            Check.same("z at " + place, book.group(39), code);
        }
        Check.same("zzzzz", book.group(39), LAST);
        Check.same("the one ahead stays", book.group(38), 0);
        Check.same("the first", book.garble(0, 4, 25), 0);
        Check.same("aaaaz", book.group(0), 25);
        Check.same("the second stays", book.group(1), 0);
        for (int place = 0; place < 5; place++) {
            Check.same("z at " + place, book.garble(39, place, 0), 25);
        }
        Check.same("aaaaa again", book.group(39), 0);
        Check.same("the entry stays", book.entry(0, 0, -1), 0);
    }

    /** 20: "Returns the letter that was there." (also if the same one comes there) */
    private static void garbleTellsTheLetter() {
        WireBook book = Samples.messageOf(Check.code("azbyc"));
        int[] due = {0, 25, 1, 24, 2};
        for (int place = 0; place < 5; place++) {
            Check.same("the same at " + place, book.garble(0, place, due[place]), due[place]);
            Check.message("unchanged", book, Check.code("azbyc"));
        }
        for (int place = 0; place < 5; place++) {
            Check.same("another at " + place, book.garble(0, place, 12), due[place]);
            Check.same("back at " + place, book.garble(0, place, due[place]), 12);
        }
        Check.message("as it was", book, Check.code("azbyc"));
    }

    /** 20: each of its Throws lines, by one too small and by one too large */
    private static void garbleRefuses() {
        WireBook book = Samples.rich(1);
        Check.refuses(book, "group -1", Check.INDEX, () -> book.garble(-1, 0, 0));
        Check.refuses(book, "group 3", Check.INDEX, () -> book.garble(3, 0, 0));
        Check.refuses(book, "place -1", Check.INDEX, () -> book.garble(1, -1, 0));
        Check.refuses(book, "place 5", Check.INDEX, () -> book.garble(1, 5, 0));
        Check.refuses(book, "letter -1", Check.ARGUMENT, () -> book.garble(1, 0, -1));
        Check.refuses(book, "letter 26", Check.ARGUMENT, () -> book.garble(1, 0, 26));
        Check.refuses(book, "a plain word", Check.STATE, () -> book.garble(0, 0, 0));
        Check.refuses(book, "group ahead of letter", Check.INDEX, () -> book.garble(3, 0, 26));
        Check.refuses(book, "place ahead of letter", Check.INDEX, () -> book.garble(1, 5, 26));
        Check.refuses(book, "place ahead of plain word", Check.INDEX, () -> book.garble(0, 5, 0));
        Check.refuses(book, "letter ahead of plain word", Check.ARGUMENT, () -> book.garble(0, 4, 26));
        WireBook none = new WireBook();
        Check.refuses(none, "an empty message", Check.INDEX, () -> none.garble(0, 0, 0));
    }

    /** 21: "the place of the first one, 0 to 3", "Returns the code word then." (the first and the last group) */
    private static void swapEnds() {
        String[] due = {"zabyc", "abzyc", "azybc", "azbcy"};
        for (int place = 0; place < 4; place++) {
            WireBook book = new WireBook();
            Check.define(book, 0, Check.code("azbyc"), 9);
            Samples.sayOften(book, 9, 40);
            book.encode(0);
            Check.same("the last group", book.swap(39, place), Check.code(due[place]));
            Check.same("the last group then", book.group(39), Check.code(due[place]));
            Check.same("the one ahead stays", book.group(38), Check.code("azbyc"));
            Check.same("the first group", book.swap(0, place), Check.code(due[place]));
            Check.same("the second stays", book.group(1), Check.code("azbyc"));
            Check.same("back", book.swap(0, place), Check.code("azbyc"));
        }
    }

    /** 21: "Lets two letters of a code word that are beside each other change places." (all rows of a and z) */
    private static void swapOfFirstAndLastLetters() {
        for (int row = 0; row < 32; row++) {
            char[] letters = new char[5];
            for (int place = 0; place < 5; place++) {
                letters[place] = (row >> place & 1) == 0 ? 'a' : 'z';
            }
            WireBook book = Samples.messageOf(Check.code(new String(letters)));
            for (int place = 0; place < 4; place++) {
                char first = letters[place];
                letters[place] = letters[place + 1];
                letters[place + 1] = first;
                String due = new String(letters);
                Check.same(due + " after place " + place, book.swap(0, place), Check.code(due));
                Check.message(due, book, Check.code(due));
            }
        }
    }

    /** 21: "Lets two letters of a code word that are beside each other change places." (equal ones) */
    private static void swapOfEqualLetters() {
        WireBook book = Samples.messageOf(LAST);
        for (int place = 0; place < 4; place++) {
            Check.same("zzzzz at " + place, book.swap(0, place), LAST);
        }
        book.garble(0, 0, 0);
        for (int place = 0; place < 4; place++) {
            book.swap(0, place);
        }
        Check.message("a carried to the end", book, Check.code("zzzza"));
    }

    /** 21: each of its Throws lines, by one too small and by one too large */
    private static void swapRefuses() {
        WireBook book = Samples.rich(1);
        Check.refuses(book, "group -1", Check.INDEX, () -> book.swap(-1, 0));
        Check.refuses(book, "group 3", Check.INDEX, () -> book.swap(3, 0));
        Check.refuses(book, "place -1", Check.INDEX, () -> book.swap(1, -1));
        Check.refuses(book, "place 4", Check.INDEX, () -> book.swap(1, 4));
        Check.refuses(book, "a plain word", Check.STATE, () -> book.swap(0, 3));
        Check.refuses(book, "place ahead of plain word", Check.INDEX, () -> book.swap(0, 4));
        WireBook none = new WireBook();
        Check.refuses(none, "an empty message", Check.INDEX, () -> none.swap(0, 0));
    }

    /** 22: "Reads the message; the line is what is read. The message stays." (longer, shorter, nothing) */
    private static void decodeTheLineIsWhatIsRead() {
        WireBook book = Samples.messageOf(Check.code("azbyc"));
        Samples.sayOften(book, 7, 40);
        book.decode(2);
        Check.line("in the place of 40 words", book, 1, 2);
        book.empty();
        book.decode(2);
        Check.line("in the place of nothing", book, 1, 2);
        book.decode(0);
        Check.line("nothing is read", book);
        Check.message("the message stays", book, Check.code("azbyc"));
        book.encode(0);
        Check.say(book, 7, 7);
        book.decode(2);
        Check.line("an empty message", book);
    }

    /** 22: "Returns how many groups are lost." (none, some, all) */
    private static void decodeTellsHowManyAreLost() {
        WireBook book = Samples.rich();
        Check.same("one of three", book.decode(0), 1);
        Check.same("one of three with book 1", book.decode(1), 1);
        Check.line("six words for hotel", book, 5, 6, 6, 6, 6, 6, 6);
        Check.same("two of three with book 2", book.decode(2), 2);
        Check.line("the plain word is never lost", book, 5);
        book.garble(2, 0, 0);
        Check.same("none of three", book.decode(0), 0);
        Check.line("garbled by one letter alone now", book, 5, 1, 2, 3);
    }

    /** 22: "Throws IndexOutOfBoundsException if there is no such book" */
    private static void decodeRefuses() {
        WireBook book = Samples.rich(7, 8);
        for (int number : NO_BOOKS) {
            Check.refuses(book, "book " + number, Check.INDEX, () -> book.decode(number));
        }
        Check.line("the line stays", book, 7, 8);
        Check.same("how it was read stays", book.how(2), 3);
    }

    /** 23: "0 a plain word, 1 an entry of the book had it, 2 it was garbled, and one entry was meant, 3 it was lost" */
    private static void howTellsTheFourWays() {
        WireBook book = Samples.rich();
        book.garble(1, 4, 0);
        Check.same("one is lost", book.decode(0), 1);
        Check.same("plain", book.how(0), 0);
        Check.same("garbled", book.how(1), 2);
        Check.same("lost", book.how(2), 3);
        book.garble(1, 4, 11);
        Check.same("garbled still: as it was read last", book.how(1), 2);
        book.decode(0);
        Check.same("had", book.how(1), 1);
        book.swap(1, 3);
        book.decode(0);
        Check.same("swapped", book.how(1), 2);
    }

    /** 23: "a group of the message that decode() has read last" (shorter and longer ones after it) */
    private static void howOfTheMessageReadLast() {
        WireBook book = Samples.rich();
        Samples.sayOften(book, 9, 40);
        book.encode(0);
        Check.same("forty groups, not read yet", book.groups(), 40);
        Check.same("the message read last had three groups", book.how(2), 3);
        Check.fails("it had no 4th group", Check.INDEX, () -> book.how(3));
        book.empty();
        book.encode(0);
        Check.same("an empty message, not read yet", book.groups(), 0);
        Check.same("the message read last had three groups", book.how(2), 3);
        book.decode(0);
        Check.fails("the empty one is read now", Check.INDEX, () -> book.how(0));
        Samples.sayOften(book, 9, 40);
        book.encode(0);
        Check.fails("forty groups, not read yet", Check.INDEX, () -> book.how(0));
        book.decode(0);
        Check.same("the 40th", book.how(39), 0);
        Check.fails("no 41st", Check.INDEX, () -> book.how(40));
    }

    /** 23: "Throws IndexOutOfBoundsException if that message had no such group, or none was read" */
    private static void howRefuses() {
        WireBook book = new WireBook();
        Check.fails("none was read", Check.INDEX, () -> book.how(0));
        Check.say(book, 1, 2);
        book.encode(0);
        Check.fails("none was read yet", Check.INDEX, () -> book.how(0));
        book.decode(0);
        int[] wrong = {-1, 2, 40, Integer.MIN_VALUE, Integer.MAX_VALUE};
        for (int group : wrong) {
            Check.refuses(book, "group " + group, Check.INDEX, () -> book.how(group));
        }
        Check.same("the last one", book.how(1), 0);
    }

    /** 24: "Returns the cost of the message." (0, 40 code words, 40 plain words at each price) */
    private static void costEnds() {
        WireBook book = new WireBook();
        Check.same("an empty message", book.cost(), 0);
        Check.define(book, 0, 5, 9);
        Samples.sayOften(book, 9, 40);
        Check.same("not encoded yet", book.cost(), 0);
        book.encode(0);
        Check.same("40 code words", book.cost(), 40);
        book.encode(1);
        for (int price = 1; price <= 5; price++) {
            book.setPrice(price);
            Check.same("40 plain words at " + price, book.cost(), 40 * price);
        }
        book.empty();
        book.encode(0);
        Check.same("an empty message again", book.cost(), 0);
    }

    /** 24: "Returns the cost of the message." (a garbled code word costs what another one costs) */
    private static void costOfAGarbledMessage() {
        WireBook book = Samples.rich();
        Check.same("4 and 1 and 1", book.cost(), 6);
        book.garble(1, 0, 25);
        book.swap(2, 3);
        Check.same("garbled on", book.cost(), 6);
        book.drop(0, 0);
        Check.same("the entry is dropped", book.cost(), 6);
        book.setPrice(1);
        Check.same("1 and 1 and 1", book.cost(), 3);
    }

    /** 25: "Returns the units that the message takes." (0, one group, 40 groups, a garbled one) */
    private static void timeEnds() {
        WireBook book = new WireBook();
        Check.same("an empty message", book.time(), 0);
        book.say(0);
        Check.same("not encoded yet", book.time(), 0);
        book.encode(0);
        Check.same("one word", book.time(), 85);
        Samples.sayOften(book, 0, 39);
        book.encode(0);
        Check.same("forty words", book.time(), 40 * 85 + 39 * 7);
        book.empty();
        Check.same("the message stays", book.time(), 40 * 85 + 39 * 7);
        book.encode(0);
        Check.same("an empty message again", book.time(), 0);
        WireBook garbled = Samples.messageOf(Check.code("eeeee"));
        Check.same("eeeee", garbled.time(), 17);
        garbled.garble(0, 4, 25);
        Check.same("eeeez", garbled.time(), 27);
    }

    /** 26: "1 if there are none" */
    private static void shareOfNone() {
        WireBook book = new WireBook();
        for (int price = 1; price <= 5; price++) {
            book.setPrice(price);
            for (int number = 0; number < 3; number++) {
                Check.same("no kept lines", book.share(number), 1.0);
            }
        }
        Check.define(book, 0, 5, 1, 2);
        Check.say(book, 1, 2);
        book.encode(0);
        Check.same("the line is not kept", book.share(0), 1.0);
    }

    /** 26: "the costs of the messages of all kept lines with this book together" (one line of one word) */
    private static void shareOfOneLine() {
        for (int price = 1; price <= 5; price++) {
            WireBook book = new WireBook();
            book.setPrice(price);
            Check.keep(book, 7);
            Check.same("a plain word", book.share(0), 1.0);
            Check.define(book, 0, 5, 7);
            Check.same("a code word", book.share(0), 1.0 / price);
            Check.same("another book", book.share(1), 1.0);
        }
    }

    /** 26: "of all kept lines", "the number of all their words" (12 lines of 40 words; 12 lines of 1 to 12) */
    private static void shareOfAll() {
        WireBook book = new WireBook();
        Samples.keepOften(book, 7, 40);
        for (int kept = 1; kept < 12; kept++) {
            book.recall(0);
            book.keep();
        }
        Check.define(book, 0, 5, 7, 7, 7, 7, 7, 7);
        Check.same("six phrases and four words in each", book.share(0), 12 * 14 / (2.0 * 480));
        book.setPrice(5);
        Check.same("at price 5", book.share(0), 12 * 26 / (5.0 * 480));
        Check.define(book, 0, 32, 7, 7, 7, 7);
        Check.same("seven phrases in each", book.share(0), 12 * 7 / (5.0 * 480));
        WireBook stairs = new WireBook();
        for (int size = 1; size <= 12; size++) {
            Samples.keepOften(stairs, 7, size);
        }
        Check.define(stairs, 0, 5, 7, 7, 7, 7, 7, 7);
        // 1 to 5 words plain, six words 1, then 1 and 1 to 5 words plain, twelve words 2.
        Check.same("lines of 1 to 12 words", stairs.share(0), (2 * 15 + 1 + 5 + 2 * 15 + 2) / (2.0 * 78));
    }

    /** 26: "Throws IndexOutOfBoundsException if there is no such book" (with and without kept lines) */
    private static void shareRefuses() {
        WireBook book = new WireBook();
        for (int number : NO_BOOKS) {
            Check.refuses(book, "book " + number, Check.INDEX, () -> book.share(number));
        }
        Check.keep(book, 1, 2);
        for (int number : NO_BOOKS) {
            Check.refuses(book, "book " + number + ", a kept line", Check.INDEX, () -> book.share(number));
        }
    }
}
