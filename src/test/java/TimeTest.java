/** 'Terms', "Time.": a test for each sentence with a boundary. */
final class TimeTest {
    private static final int[] LETTERS = {
        5, 9, 11, 7, 1, 9, 9, 7, 3, 13, 9, 9, 7, 5, 11, 11, 13, 7, 5, 3, 7, 9, 9, 11, 13, 11
    };
    private static final int[] DIGITS = {19, 17, 15, 13, 11, 9, 11, 13, 15, 17};

    public static void main(String[] args) {
        nothing();
        letters();
        digits();
        zerosAhead();
        betweenTwo();
        betweenGroups();
        atAnyPrice();
        Check.end();
    }

    private static int timeOf(int... words) {
        WireBook book = new WireBook();
        Check.say(book, words);
        book.encode(0);
        return book.time();
    }

    /** "between two groups 7" (an empty message takes no time) */
    private static void nothing() {
        Check.same("a new object", new WireBook().time(), 0);
        Check.same("an empty line", timeOf(), 0);
    }

    /** "The letters a to z take .. units" (each letter at each place) */
    private static void letters() {
        for (int place = 0; place < 5; place++) {
            WireBook book = Samples.messageOf(0);
            for (int letter = 0; letter < 26; letter++) {
                book.garble(0, place, letter);
                Check.same("letter " + letter + " at " + place, book.time(), 4 * 5 + LETTERS[letter] + 4 * 3);
            }
        }
        Check.same("zzzzz", Samples.messageOf(Samples.LAST).time(), 5 * 11 + 4 * 3);
    }

    /** "the digits 0 to 9 19, 17, .." (each digit at each place) */
    private static void digits() {
        int[] weights = {1, 10, 100, 1000};
        for (int weight : weights) {
            for (int digit = 0; digit < 10; digit++) {
                int word = digit * weight;
                Check.same("word " + word, timeOf(word), 3 * 19 + DIGITS[digit] + 3 * 3);
            }
        }
    }

    /** "a plain word as its four decimal digits (with zeros ahead)" */
    private static void zerosAhead() {
        Check.same("0", timeOf(0), 19 + 19 + 19 + 19 + 9);
        Check.same("9", timeOf(9), 19 + 19 + 19 + 17 + 9);
        Check.same("10", timeOf(10), 19 + 19 + 17 + 19 + 9);
        Check.same("99", timeOf(99), 19 + 19 + 17 + 17 + 9);
        Check.same("100", timeOf(100), 19 + 17 + 19 + 19 + 9);
        Check.same("999", timeOf(999), 19 + 17 + 17 + 17 + 9);
        Check.same("1000", timeOf(1000), 17 + 19 + 19 + 19 + 9);
        Check.same("9999", timeOf(9999), 17 + 17 + 17 + 17 + 9);
        Check.same("1234", timeOf(1234), 17 + 15 + 13 + 11 + 9);
    }

    /** "between two letters or digits of a group there are 3 units" (4 times in a code word, 3 times in a word) */
    private static void betweenTwo() {
        Check.same("eeeee", Samples.messageOf(Check.code("eeeee")).time(), 5 + 12);
        Check.same("5555", timeOf(5555), 36 + 9);
    }

    /** "between two groups 7" (none for one group, one for two, 39 for forty) */
    private static void betweenGroups() {
        Check.same("one group", timeOf(5555), 45);
        Check.same("two groups", timeOf(5555, 5555), 45 + 7 + 45);
        WireBook book = new WireBook();
        Samples.sayOften(book, 5555, 40);
        book.encode(0);
        Check.same("forty groups", book.time(), 40 * 45 + 39 * 7);
        WireBook mixed = new WireBook();
        Check.define(mixed, 0, Check.code("eeeee"), 1);
        Check.say(mixed, 1, 5555, 1);
        mixed.encode(0);
        Check.same("code word, word, code word", mixed.time(), 17 + 7 + 45 + 7 + 17);
    }

    /** "A code word is sent letter by letter, a plain word as its four decimal digits" (the price is no part of it) */
    private static void atAnyPrice() {
        for (int price = 1; price <= 5; price++) {
            WireBook book = new WireBook();
            book.setPrice(price);
            Check.say(book, 0, 0);
            book.encode(0);
            Check.same("at price " + price, book.time(), 2 * 85 + 7);
        }
    }
}
