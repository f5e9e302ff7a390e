/** Promises 1 to 7: a new object, and the calls about lines. */
final class LinesTest {
    public static void main(String[] args) {
        newObject();
        say();
        empty();
        wordsAndWordAt();
        keep();
        recall();
        Check.end();
    }

    private static void newObject() {
        WireBook book = new WireBook();
        Check.same("1: words()", book.words(), 0);
        Check.same("1: groups()", book.groups(), 0);
        Check.same("1: cost()", book.cost(), 0);
        Check.same("1: time()", book.time(), 0);
        for (int number = 0; number < 3; number++) {
            Check.same("1: entries", book.entries(number), 0);
        }
        Check.fails("1: no kept lines", Check.INDEX, () -> book.recall(0));
        Check.fails("1: nothing read", Check.INDEX, () -> book.how(0));
        Check.same("1: price", book.setPrice(3), 2);
        Check.same("1: two objects share nothing", new WireBook().setPrice(3), 2);
    }

    private static void say() {
        WireBook book = new WireBook();
        Check.same("2: first", book.say(0), 1);
        Check.same("2: second", book.say(9999), 2);
        Check.line("2", book, 0, 9999);
        int[] wrong = {-1, 10000, Integer.MIN_VALUE, Integer.MAX_VALUE};
        for (int word : wrong) {
            Check.refuses(book, "2: say(" + word + ")", Check.ARGUMENT, () -> book.say(word));
        }
        for (int count = 3; count <= 40; count++) {
            Check.same("2: count", book.say(7), count);
        }
        Check.refuses(book, "2: the 41st", Check.STATE, () -> book.say(7));
        Check.refuses(book, "2: both wrong", Check.ARGUMENT, () -> book.say(10000));
    }

    private static void empty() {
        WireBook book = new WireBook();
        Check.same("3: nothing there", book.empty(), 0);
        Check.say(book, 4, 5, 6);
        Check.same("3: three there", book.empty(), 3);
        Check.same("3: gone", book.words(), 0);
        Check.same("3: again", book.empty(), 0);
        for (int count = 0; count < 40; count++) {
            book.say(count);
        }
        Check.same("3: forty there", book.empty(), 40);
        Check.same("3: room again", book.say(1), 1);
    }

    private static void wordsAndWordAt() {
        WireBook book = new WireBook();
        Check.fails("5: empty line", Check.INDEX, () -> book.wordAt(0));
        Check.say(book, 11, 12, 13);
        Check.same("4: words()", book.words(), 3);
        Check.same("5: first", book.wordAt(0), 11);
        Check.same("5: last", book.wordAt(2), 13);
        int[] wrong = {-1, 3, 40, Integer.MIN_VALUE, Integer.MAX_VALUE};
        for (int place : wrong) {
            Check.fails("5: wordAt(" + place + ")", Check.INDEX, () -> book.wordAt(place));
        }
        book.empty();
        Check.same("4: words() of the empty line", book.words(), 0);
        Check.fails("5: emptied line", Check.INDEX, () -> book.wordAt(0));
    }

    private static void keep() {
        WireBook book = new WireBook();
        Check.refuses(book, "6: empty line", Check.STATE, book::keep);
        for (int count = 1; count <= 12; count++) {
            book.say(count);
            Check.same("6: kept lines", book.keep(), count);
            Check.same("6: the line is empty then", book.words(), 0);
        }
        Check.refuses(book, "6: empty line, 12 kept", Check.STATE, book::keep);
        book.say(13);
        Check.refuses(book, "6: 12 lines are kept", Check.STATE, book::keep);
        Check.line("6: the line stays", book, 13);
        for (int kept = 0; kept < 12; kept++) {
            book.recall(kept);
            Check.line("6: kept line " + kept, book, kept + 1);
        }
    }

    private static void recall() {
        WireBook book = new WireBook();
        Check.keep(book, 1, 2, 3);
        Check.keep(book, 4);
        for (int count = 0; count < 40; count++) {
            book.say(100 + count);
        }
        book.keep();
        Check.say(book, 9, 9, 9, 9, 9);
        Check.same("7: three words", book.recall(0), 3);
        Check.line("7: in the place of what was there", book, 1, 2, 3);
        book.say(5);
        Check.same("7: one word", book.recall(1), 1);
        Check.line("7: line 1", book, 4);
        Check.same("7: kept still, as it was", book.recall(0), 3);
        Check.line("7: line 0 again", book, 1, 2, 3);
        Check.same("7: forty words", book.recall(2), 40);
        Check.same("7: last of forty", book.wordAt(39), 139);
        int[] wrong = {-1, 3, 12, Integer.MIN_VALUE, Integer.MAX_VALUE};
        for (int kept : wrong) {
            Check.refuses(book, "7: recall(" + kept + ")", Check.INDEX, () -> book.recall(kept));
        }
    }
}
