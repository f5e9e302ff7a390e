/** Promises 16 to 26: the calls about messages. */
final class MessagesTest {
    private static final int[] NO_BOOKS = {-1, 3, Integer.MIN_VALUE, Integer.MAX_VALUE};
    private static final int A = Check.code("aaaaa");
    private static final int B = Check.code("bbbbb");
    private static final int C = Check.code("ccccc");

    public static void main(String[] args) {
        setPrice();
        encode();
        encodeTies();
        groups();
        garble();
        swap();
        decode();
        decodeGarbled();
        decodeTooMuch();
        how();
        cost();
        time();
        share();
        Check.end();
    }

    private static int plain(int word) {
        return -1 - word;
    }

    private static void setPrice() {
        WireBook book = new WireBook();
        Check.same("16: 2 at first", book.setPrice(1), 2);
        Check.same("16: before", book.setPrice(5), 1);
        Check.same("16: before", book.setPrice(5), 5);
        int[] wrong = {0, 6, -1, Integer.MIN_VALUE, Integer.MAX_VALUE};
        for (int price : wrong) {
            Check.refuses(book, "16: price " + price, Check.ARGUMENT, () -> book.setPrice(price));
        }
        Check.same("16: unchanged", book.setPrice(2), 5);
    }

    private static void encode() {
        WireBook book = new WireBook();
        Check.same("17: empty line", book.encode(0), 0);
        Check.message("17: empty line", book);
        Check.define(book, 0, A, 1, 2);
        Check.define(book, 0, B, 2, 3, 4, 5);
        Check.define(book, 0, C, 5, 6);
        // The longest phrase first would cost 6 here; the least is 5: 1 | 2 3 4 5 | 6, or 1 2 | 3 | 4 | 5 6 at 6.
        Check.say(book, 1, 2, 3, 4, 5, 6);
        Check.same("17: cost", book.encode(0), 5);
        Check.message("17: cheapest", book, plain(1), B, plain(6));
        Check.line("17: the line stays", book, 1, 2, 3, 4, 5, 6);
        Check.same("17: without entries", book.encode(1), 12);
        Check.message("17: in the place of the one that was there", book,
                plain(1), plain(2), plain(3), plain(4), plain(5), plain(6));
        book.setPrice(5);
        Check.same("17: at another price", book.encode(0), 11);
        book.empty();
        Check.say(book, 5, 6, 1);
        Check.same("17: a phrase reaches to the end at most", book.encode(0), 6);
        Check.message("17: end", book, C, plain(1));
        for (int wrong : NO_BOOKS) {
            Check.refuses(book, "17: book " + wrong, Check.INDEX, () -> book.encode(wrong));
        }
        fortyWords();
    }

    private static void fortyWords() {
        WireBook book = new WireBook();
        for (int count = 0; count < 40; count++) {
            book.say(9);
        }
        Check.same("17: forty plain words", book.encode(0), 80);
        Check.same("17: forty groups", book.groups(), 40);
        Check.keep(book, 9, 9, 9, 9, 9, 9);
        book.recall(0);
        book.define(0, A);
        for (int count = 0; count < 40; count++) {
            book.say(9);
        }
        Check.same("17: six phrases and four words", book.encode(0), 14);
        Check.same("17: the longest ones first", book.group(5), A);
        Check.same("17: words behind them", book.group(6), plain(9));
    }

    private static void encodeTies() {
        WireBook book = new WireBook();
        book.setPrice(1);
        Check.define(book, 0, B, 7);
        Check.say(book, 7, 8);
        Check.same("17: tie", book.encode(0), 2);
        Check.message("17: a phrase ahead of a plain word", book, B, plain(8));
        Check.define(book, 0, A, 7);
        Check.say(book, 7);
        book.encode(0);
        Check.message("17: the smallest code word, defined last", book, A);
        Check.define(book, 0, C, 7);
        Check.say(book, 7);
        book.encode(0);
        Check.message("17: the smallest code word, defined first", book, A);
        // 1 2 | 3 and 1 | 2 3 cost the same: the longest first piece is taken.
        WireBook other = new WireBook();
        Check.define(other, 2, A, 1);
        Check.define(other, 2, B, 1, 2);
        Check.define(other, 2, C, 2, 3);
        Check.define(other, 2, Check.code("ddddd"), 3);
        Check.say(other, 1, 2, 3);
        Check.same("17: longest first", other.encode(2), 2);
        Check.message("17: longest first", other, B, Check.code("ddddd"));
        // A long piece that makes the rest dearer is not taken, be it the longest.
        other.drop(2, 3);
        other.encode(2);
        Check.message("17: least cost ahead of length", other, A, C);
    }

    private static void groups() {
        WireBook book = new WireBook();
        Check.define(book, 0, C, 1, 2);
        Check.say(book, 0, 1, 2, 9999);
        book.encode(0);
        Check.same("18: groups()", book.groups(), 3);
        Check.same("19: plain 0", book.group(0), -1);
        Check.same("19: code word", book.group(1), C);
        Check.same("19: plain 9999", book.group(2), -10000);
        int[] wrong = {-1, 3, 40, Integer.MIN_VALUE, Integer.MAX_VALUE};
        for (int group : wrong) {
            Check.fails("19: group " + group, Check.INDEX, () -> book.group(group));
        }
        book.empty();
        Check.same("18: the message stays", book.groups(), 3);
        book.encode(0);
        Check.same("18: empty message", book.groups(), 0);
        Check.fails("19: empty message", Check.INDEX, () -> book.group(0));
    }

    /** A message of a plain word and the code word that the letters tell. */
    private static WireBook sent(String letters) {
        WireBook book = new WireBook();
        Check.define(book, 0, Check.code(letters), 1, 2);
        Check.say(book, 5, 1, 2);
        book.encode(0);
        return book;
    }

    private static void garble() {
        WireBook book = sent("hotel");
        Check.same("20: first", book.garble(1, 0, 25), 'h' - 'a');
        Check.same("20: zotel", book.group(1), Check.code("zotel"));
        Check.same("20: last", book.garble(1, 4, 0), 'l' - 'a');
        Check.same("20: zotea", book.group(1), Check.code("zotea"));
        Check.same("20: middle", book.garble(1, 2, 2), 't' - 'a');
        Check.same("20: zocea", book.group(1), Check.code("zocea"));
        Check.same("20: the same letter", book.garble(1, 2, 2), 2);
        Check.same("20: zocea still", book.group(1), Check.code("zocea"));
        Check.same("20: the book is not garbled", book.entry(0, 0, -1), Check.code("hotel"));
        int[] wrong = {-1, 2, Integer.MIN_VALUE, Integer.MAX_VALUE};
        for (int group : wrong) {
            Check.refuses(book, "20: group " + group, Check.INDEX, () -> book.garble(group, 0, 26));
        }
        int[] places = {-1, 5, Integer.MIN_VALUE, Integer.MAX_VALUE};
        for (int place : places) {
            Check.refuses(book, "20: place " + place, Check.INDEX, () -> book.garble(0, place, 26));
        }
        int[] letters = {-1, 26, Integer.MIN_VALUE, Integer.MAX_VALUE};
        for (int letter : letters) {
            Check.refuses(book, "20: letter " + letter, Check.ARGUMENT, () -> book.garble(0, 0, letter));
        }
        Check.refuses(book, "20: plain word", Check.STATE, () -> book.garble(0, 0, 0));
    }

    private static void swap() {
        WireBook book = sent("hotel");
        Check.same("21: first", book.swap(1, 0), Check.code("ohtel"));
        Check.same("21: last", book.swap(1, 3), Check.code("ohtle"));
        Check.same("21: middle", book.swap(1, 1), Check.code("othle"));
        Check.same("21: group()", book.group(1), Check.code("othle"));
        Check.same("21: back", book.swap(1, 1), Check.code("ohtle"));
        WireBook even = sent("aabba");
        Check.same("21: equal letters", even.swap(1, 0), Check.code("aabba"));
        int[] wrong = {-1, 2, Integer.MIN_VALUE, Integer.MAX_VALUE};
        for (int group : wrong) {
            Check.refuses(book, "21: group " + group, Check.INDEX, () -> book.swap(group, 0));
        }
        int[] places = {-1, 4, 5, Integer.MIN_VALUE, Integer.MAX_VALUE};
        for (int place : places) {
            Check.refuses(book, "21: place " + place, Check.INDEX, () -> book.swap(1, place));
            Check.refuses(book, "21: place of a plain word", Check.INDEX, () -> book.swap(0, place));
        }
        Check.refuses(book, "21: plain word", Check.STATE, () -> book.swap(0, 0));
    }

    private static void decode() {
        WireBook book = sent("hotel");
        book.empty();
        Check.same("22: nothing lost", book.decode(0), 0);
        Check.line("22: what was said", book, 5, 1, 2);
        Check.message("22: the message stays", book, plain(5), Check.code("hotel"));
        Check.same("22: another book", book.decode(1), 1);
        Check.line("22: plain words alone", book, 5);
        Check.same("22: again", book.decode(0), 0);
        Check.line("22: in the place of what is there", book, 5, 1, 2);
        for (int wrong : NO_BOOKS) {
            Check.refuses(book, "22: book " + wrong, Check.INDEX, () -> book.decode(wrong));
        }
        book.empty();
        book.encode(0);
        book.say(8);
        Check.same("22: empty message", book.decode(0), 0);
        Check.line("22: empty line", book);
    }

    private static void decodeGarbled() {
        WireBook book = sent("hotel");
        for (int place = 0; place < 5; place++) {
            int was = book.garble(1, place, 25);
            read(book, "22: garbled at " + place, 2);
            book.garble(1, place, was);
        }
        for (int place = 0; place < 4; place++) {
            book.swap(1, place);
            read(book, "22: swapped at " + place, 2);
            book.swap(1, place);
        }
        read(book, "22: as it was", 1);
        book.swap(1, 0);
        book.swap(1, 2);
        read(book, "22: swapped twice", 3);
        book.swap(1, 2);
        book.garble(1, 4, 0);
        read(book, "22: swapped and garbled", 3);
        twoMeant();
        exactAheadOfAlike();
    }

    private static void read(WireBook book, String what, int how) {
        Check.same(what + ": lost", book.decode(0), how == 3 ? 1 : 0);
        Check.same(what + ": how", book.how(1), how);
        if (how == 3) {
            Check.line(what, book, 5);
        } else {
            Check.line(what, book, 5, 1, 2);
        }
    }

    private static void twoMeant() {
        WireBook book = new WireBook();
        Check.define(book, 0, Check.code("aaaaa"), 1);
        Check.define(book, 0, Check.code("aaabb"), 2);
        Check.define(book, 0, Check.code("bcaaa"), 3);
        Check.say(book, 1, 2, 3);
        book.encode(0);
        book.garble(0, 4, 1);
        Check.same("22: aaaab is one letter from two entries", book.decode(0), 1);
        Check.same("23: lost", book.how(0), 3);
        Check.line("22: the others are read", book, 2, 3);
        Check.define(book, 0, Check.code("cbaab"), 4);
        // cbaaa: one letter from cbaab, and bcaaa swapped.
        book.swap(2, 0);
        Check.same("22: one garbled, one swapped", book.decode(0), 2);
        book.drop(0, 3);
        Check.same("22: just one again", book.decode(0), 1);
        Check.line("22: swapped one is read", book, 2, 3);
    }

    private static void exactAheadOfAlike() {
        WireBook book = new WireBook();
        Check.define(book, 0, Check.code("aaaaa"), 1);
        Check.define(book, 0, Check.code("aaabb"), 2);
        Check.say(book, 1);
        book.encode(0);
        book.drop(0, 0);
        Check.define(book, 0, Check.code("aaacc"), 3);
        Check.same("22: dropped entry", book.decode(0), 1);
        book.garble(0, 4, 1);
        book.garble(0, 3, 1);
        Check.same("22: becomes another entry's code word", book.decode(0), 0);
        Check.same("23: had by an entry", book.how(0), 1);
        Check.line("22: its phrase", book, 2);
    }

    private static void decodeTooMuch() {
        WireBook book = new WireBook();
        Check.define(book, 0, A, 9);
        Check.define(book, 1, A, 1, 2, 3, 4, 5, 6);
        book.setPrice(5);
        for (int count = 0; count < 10; count++) {
            book.say(9);
        }
        book.say(8);
        book.encode(0);
        Check.same("22: groups", book.groups(), 11);
        for (int place = 0; place < 3; place++) {
            book.garble(9, place, 7);
        }
        Check.same("22: lost behind the 40 words", book.decode(1), 1);
        Check.same("22: 40 words", book.words(), 40);
        for (int place = 0; place < 40; place++) {
            Check.same("22: word " + place, book.wordAt(place), place % 6 + 1);
        }
        Check.same("23: left out, yet had", book.how(8), 1);
        Check.same("23: lost", book.how(9), 3);
        Check.same("23: left out, yet plain", book.how(10), 0);
        fullToTheWord();
    }

    private static void fullToTheWord() {
        WireBook book = new WireBook();
        Check.define(book, 0, A, 9);
        Check.define(book, 1, A, 1, 2, 3, 4, 5);
        for (int count = 0; count < 8; count++) {
            book.say(9);
        }
        book.encode(0);
        Check.same("22: just 40 words", book.decode(1), 0);
        Check.same("22: just 40 words", book.words(), 40);
        Check.same("22: last one", book.wordAt(39), 5);
    }

    private static void how() {
        WireBook book = sent("hotel");
        Check.fails("23: none was read", Check.INDEX, () -> book.how(0));
        book.decode(0);
        Check.same("23: plain", book.how(0), 0);
        Check.same("23: had", book.how(1), 1);
        int[] wrong = {-1, 2, 40, Integer.MIN_VALUE, Integer.MAX_VALUE};
        for (int group : wrong) {
            Check.fails("23: group " + group, Check.INDEX, () -> book.how(group));
        }
        book.garble(1, 0, 0);
        Check.same("23: as decode() has read last", book.how(1), 1);
        book.empty();
        Check.say(book, 1, 2, 3, 4);
        book.encode(0);
        Check.same("23: a new message is not read yet", book.how(0), 0);
        Check.fails("23: the read message had two groups", Check.INDEX, () -> book.how(2));
        book.decode(0);
        Check.same("23: read now", book.how(0), 1);
        Check.same("23: three groups", book.how(2), 0);
        book.empty();
        book.encode(0);
        book.decode(0);
        Check.fails("23: empty message read", Check.INDEX, () -> book.how(0));
    }

    private static void cost() {
        WireBook book = sent("hotel");
        Check.same("24: a word and a phrase", book.cost(), 3);
        book.setPrice(5);
        Check.same("24: at the price that holds now", book.cost(), 6);
        book.garble(1, 0, 0);
        Check.same("24: garbled", book.cost(), 6);
        book.empty();
        book.encode(0);
        Check.same("24: empty message", book.cost(), 0);
    }

    private static int timeOf(int price, int word) {
        WireBook book = new WireBook();
        book.setPrice(price);
        book.say(word);
        book.encode(0);
        return book.time();
    }

    private static void time() {
        int[] letters = {5, 9, 11, 7, 1, 9, 9, 7, 3, 13, 9, 9, 7, 5, 11, 11, 13, 7, 5, 3, 7, 9, 9, 11, 13, 11};
        int[] digits = {19, 17, 15, 13, 11, 9, 11, 13, 15, 17};
        for (int digit = 0; digit < 10; digit++) {
            Check.same("25: 000" + digit, timeOf(2, digit), 3 * 19 + digits[digit] + 9);
            Check.same("25: " + digit + "000", timeOf(5, digit * 1000), 3 * 19 + digits[digit] + 9);
            Check.same("25: " + digit + digit + digit + digit, timeOf(1, digit * 1111), 4 * digits[digit] + 9);
        }
        WireBook book = sent("aaaaa");
        book.garble(1, 0, 0);
        for (int letter = 0; letter < 26; letter++) {
            book.garble(1, letter % 5, letter);
            int due = 4 * 19 - 19 + 9 + 9 + 7 + 12;
            for (int place = 0; place < 5; place++) {
                due += letters[book.letter(book.group(1), place)];
            }
            Check.same("25: 0005 and letter " + letter, book.time(), due);
        }
        book.empty();
        book.encode(0);
        Check.same("25: empty message", book.time(), 0);
        Check.say(book, 0, 0, 0);
        book.encode(0);
        Check.same("25: two gaps between three groups", book.time(), 3 * 85 + 14);
    }

    private static void share() {
        WireBook book = new WireBook();
        Check.same("26: none kept", book.share(0), 1.0);
        Check.keep(book, 1, 2, 3);
        Check.keep(book, 1, 2, 1, 2);
        Check.same("26: no entries", book.share(0), 1.0);
        Check.define(book, 0, A, 1, 2);
        Check.say(book, 4, 5);
        book.encode(0);
        Check.same("26: costs 3 and 2 of 14", book.share(0), 5.0 / 14.0);
        book.setPrice(5);
        Check.same("26: costs 6 and 2 of 35", book.share(0), 8.0 / 35.0);
        Check.same("26: another book", book.share(2), 1.0);
        Check.line("26: the line stays", book, 4, 5);
        Check.message("26: the message stays", book, plain(4), plain(5));
        for (int wrong : NO_BOOKS) {
            Check.refuses(book, "26: book " + wrong, Check.INDEX, () -> book.share(wrong));
        }
    }
}
