/** Promises 1 to 29: what a call does not tell of it does not change, and what only tells changes nothing. */
final class UnchangedTest {
    private static final int HOTEL = Check.code("hotel");

    private interface Call {
        void on(WireBook book);
    }

    public static void main(String[] args) {
        tellingCalls();
        how();
        encode();
        garbleAndSwap();
        lines();
        prices();
        books();
        Check.end();
    }

    private static void alike(String what, WireBook got, WireBook due) {
        String toldGot = Samples.told(got);
        String toldDue = Samples.told(due);
        Check.holds(what + ": " + toldGot + " is, due is " + toldDue, toldGot.equals(toldDue));
    }

    private static void changesNothing(String name, Call call) {
        WireBook book = Samples.rich(1, 2, 3, 1, 2, 3, 4);
        call.on(book);
        alike(name, book, Samples.rich(1, 2, 3, 1, 2, 3, 4));
    }

    private static void tellingCalls() {
        changesNothing("words", WireBook::words);
        changesNothing("wordAt", book -> book.wordAt(6));
        changesNothing("letter", book -> book.letter(HOTEL, 4));
        changesNothing("reason", book -> book.reason(0, HOTEL));
        changesNothing("firstFit", book -> book.firstFit(0, HOTEL));
        changesNothing("entries", book -> book.entries(2));
        changesNothing("entry", book -> book.entry(1, 0, 5));
        changesNothing("find", book -> book.find(0, HOTEL));
        changesNothing("groups", WireBook::groups);
        changesNothing("group", book -> book.group(2));
        changesNothing("how", book -> book.how(2));
        changesNothing("cost", WireBook::cost);
        changesNothing("time", WireBook::time);
        changesNothing("share", book -> book.share(0));
        changesNothing("digest", WireBook::digest);
    }

    /** A rich object's message was read as 0 1 3, whatever else is done then. */
    private static void readAs013(String name, Call call) {
        WireBook book = Samples.rich(1, 2);
        call.on(book);
        int[] due = {0, 1, 3};
        for (int group = 0; group < 3; group++) {
            Check.same(name + ": how(" + group + ")", book.how(group), due[group]);
        }
        Check.fails(name + ": how(3)", Check.INDEX, () -> book.how(3));
    }

    private static void how() {
        readAs013("say", book -> book.say(1));
        readAs013("empty", WireBook::empty);
        readAs013("keep", WireBook::keep);
        readAs013("recall", book -> book.recall(0));
        readAs013("define", book -> book.define(0, 5000000));
        readAs013("drop", book -> book.drop(0, 0));
        for (int price = 1; price <= 5; price++) {
            int set = price;
            readAs013("setPrice", book -> book.setPrice(set));
        }
        readAs013("encode", book -> book.encode(0));
        readAs013("encode with another book", book -> book.encode(2));
        readAs013("garble", book -> book.garble(1, 0, 0));
        readAs013("swap", book -> book.swap(1, 0));
        readAs013("propose", book -> book.propose(0));
        readAs013("learn", book -> book.learn(0, 40));
    }

    private static void encode() {
        WireBook book = Samples.rich(5, 1, 2, 3);
        book.encode(0);
        book.garble(2, 0, 1);
        book.garble(2, 1, 1);
        alike("the same message again", book, Samples.rich(5, 1, 2, 3));
    }

    private static void garbleAndSwap() {
        WireBook book = Samples.rich(7);
        book.garble(1, 4, book.garble(1, 4, 25));
        alike("garbled there and back", book, Samples.rich(7));
        WireBook swapped = Samples.rich(7);
        swapped.swap(1, 3);
        swapped.swap(1, 3);
        alike("swapped there and back", swapped, Samples.rich(7));
    }

    private static void lines() {
        WireBook said = Samples.rich(7);
        said.say(8);
        alike("say", said, Samples.rich(7, 8));
        WireBook emptied = Samples.rich(7);
        emptied.empty();
        alike("empty", emptied, Samples.rich());
        WireBook recalled = Samples.rich(7, 7, 7, 7);
        recalled.recall(0);
        alike("recall", recalled, Samples.rich(1, 2, 3));
        WireBook proposed = Samples.rich(7, 7, 7, 7);
        proposed.propose(0);
        alike("propose", proposed, Samples.rich(1, 2, 3));
    }

    private static void prices() {
        WireBook book = Samples.rich(7);
        book.setPrice(1);
        book.setPrice(4);
        alike("another price and the same again", book, Samples.rich(7));
    }

    private static void books() {
        WireBook book = Samples.rich(7);
        book.define(2, 5);
        book.say(7);
        book.drop(2, 1);
        alike("an entry more, dropped again", book, Samples.rich(7));
        WireBook learned = Samples.rich(7);
        int added = learned.learn(1, 40);
        Check.same("1 2, 2 3 and 1 2 3", added, 3);
        for (int left = 3; left > 0; left--) {
            learned.drop(1, left);
        }
        alike("entries learned, dropped again", learned, Samples.rich());
    }
}
