/** What the tests share: counts answers that are not due and ends with exit code 1 if there were any. */
final class Check {
    static final Class<IllegalArgumentException> ARGUMENT = IllegalArgumentException.class;
    static final Class<IllegalStateException> STATE = IllegalStateException.class;
    static final Class<IndexOutOfBoundsException> INDEX = IndexOutOfBoundsException.class;

    private static int checks = 0;
    private static int wrong = 0;

    private Check() { }

    interface Call {
        void run();
    }

    static void same(String what, long got, long due) {
        checks++;
        if (got != due) {
            fail(what + " answered " + got + ", due is " + due);
        }
    }

    static void same(String what, double got, double due) {
        checks++;
        if (got != due) {
            fail(what + " answered " + got + ", due is " + due);
        }
    }

    static void holds(String what, boolean held) {
        checks++;
        if (!held) {
            fail(what);
        }
    }

    /** The exception must be of the very class: the machine's own ones are classes below it. */
    static void fails(String what, Class<?> due, Call call) {
        checks++;
        Class<?> got = null;
        try {
            call.run();
        } catch (RuntimeException thrown) {
            got = thrown.getClass();
        }
        if (got != due) {
            fail(what + " threw " + got + ", due is " + due);
        }
    }

    /** The call must throw and leave all that digest() and how() tell as it was. */
    static void refuses(WireBook book, String what, Class<?> due, Call call) {
        String before = state(book);
        fails(what, due, call);
        String after = state(book);
        holds(what + " changed something: " + before + " was, " + after + " is", after.equals(before));
    }

    /** digest() tells the whole state but for how the last message was read. */
    private static String state(WireBook book) {
        StringBuilder told = new StringBuilder();
        told.append(book.digest()).append(", read");
        for (int group = 0; group <= 40; group++) {
            try {
                told.append(' ').append(book.how(group));
            } catch (RuntimeException end) {
                return told.toString();
            }
        }
        return told.toString();
    }

    static void fail(String text) {
        wrong++;
        if (wrong <= 50) {
            System.out.println("WRONG: " + text);
        }
    }

    static void end() {
        System.out.println(checks + " checks, " + wrong + " wrong");
        if (wrong != 0) {
            System.exit(1);
        }
    }

    // ---- short ways to bring an object into a state and to look at it

    static void say(WireBook book, int... words) {
        for (int word : words) {
            book.say(word);
        }
    }

    static void keep(WireBook book, int... words) {
        book.empty();
        say(book, words);
        book.keep();
    }

    static void define(WireBook book, int number, int code, int... words) {
        book.empty();
        say(book, words);
        book.define(number, code);
    }

    /** The number of a code word written in letters. */
    static int code(String letters) {
        int number = 0;
        for (char letter : letters.toCharArray()) {
            number = number * 26 + (letter - 'a');
        }
        return number;
    }

    static void line(String what, WireBook book, int... due) {
        same(what + ": words()", book.words(), due.length);
        for (int place = 0; place < due.length && place < book.words(); place++) {
            same(what + ": wordAt(" + place + ")", book.wordAt(place), due[place]);
        }
    }

    static void message(String what, WireBook book, int... due) {
        same(what + ": groups()", book.groups(), due.length);
        for (int group = 0; group < due.length && group < book.groups(); group++) {
            same(what + ": group(" + group + ")", book.group(group), due[group]);
        }
    }

    static void phrase(String what, WireBook book, int number, int entry, int code, int... due) {
        same(what + ": code word", book.entry(number, entry, -1), code);
        for (int place = 0; place < due.length; place++) {
            same(what + ": word " + place, book.entry(number, entry, place), due[place]);
        }
        fails(what + ": word behind the phrase", INDEX, () -> book.entry(number, entry, due.length));
    }
}
