import java.util.Arrays;

/**
 * All promises together: long runs of calls, always the same ones, on a WireBook and on the slow book beside it.
 * Both must answer alike; their checksums are compared after every call, or after every tenth one.
 */
final class ModelTest {
    private static final int RUNS = 640;
    private static final int CALLS = 512;
    private static final int[] EDGES = {
        -2, -1, 0, 1, 3, 4, 5, 6, 25, 26, 39, 40, 41, 9999, 10000, 11881375, 11881376,
        Integer.MIN_VALUE, Integer.MAX_VALUE
    };
    /** A name as often as it is to be drawn, compared with the others. */
    private static final String[] NAMES = (
            "say say say say say say say say say say say say say say say say say say say say say say say say "
            + "empty words wordAt keep keep recall recall recall letter reason reason firstFit define define define define "
            + "drop entries entry entry find setPrice encode encode encode encode groups group group garble garble garble "
            + "garble swap swap swap decode decode decode decode how how how cost time share propose propose learn digest")
            .split(" ");

    private final WireBook book = new WireBook();
    private final SlowBook slow = new SlowBook();
    private final int run;
    private final int vocabulary;
    private final int codes;
    private final int digestEvery;
    private long seed;
    /** An object is used for 512 calls: what later ones answer is free. */
    private int left = CALLS;
    private boolean alike = true;

    private ModelTest(int run) {
        this.run = run;
        seed = run * 7919L + 12345;
        vocabulary = 1 + draw(run % 3 == 0 ? 3 : 12);
        codes = draw(4);
        digestEvery = run % 8 < 4 ? 1 : 10;
    }

    public static void main(String[] args) {
        for (int run = 0; run < RUNS; run++) {
            new ModelTest(run).go();
        }
        Check.end();
    }

    private void go() {
        begin(run % 16);
        while (alike && left > 1) {
            String name = NAMES[draw(NAMES.length)];
            step(name, arguments(name));
        }
        if (alike) {
            compareDigests("run " + run + ", at the end");
        }
    }

    /** States that drawn calls alone seldom come to: lines, kept lines and books that are full. */
    private void begin(int kind) {
        if (kind == 1) {
            keepLine(vocabulary, 11);
        }
        if (kind == 2 || kind == 5) {
            keepLine(0, 2);
            step("learn", 0, 40, 0);
        }
        if (kind == 3 || kind == 6) {
            for (int kept = 0; kept < 12; kept++) {
                step("say", draw(vocabulary), 0, 0);
                step("say", draw(vocabulary), 0, 0);
                step("keep", 0, 0, 0);
            }
        }
    }

    private void keepLine(int drawnBelow, int times) {
        for (int word = 0; word < 40; word++) {
            step("say", drawnBelow > 0 ? draw(drawnBelow) : word, 0, 0);
        }
        for (int kept = 0; kept < times; kept++) {
            step("keep", 0, 0, 0);
            step("recall", kept, 0, 0);
        }
    }

    private void step(String name, int... with) {
        Object due = slow.call(name, with[0], with[1], with[2]);
        Object got = answer(name, with[0], with[1], with[2]);
        left--;
        String what = "run " + run + ", " + left + " calls left: " + name + Arrays.toString(with);
        alike = alike && got.equals(due);
        Check.holds(what + " answered " + got + ", due is " + due, alike);
        if (left > 1 && left % digestEvery == 0) {
            compareDigests(what);
        }
    }

    private void compareDigests(String what) {
        Object due = slow.call("digest", 0, 0, 0);
        long got = book.digest();
        left--;
        alike = alike && due.equals(got);
        Check.holds(what + ": digest() then answered " + got + ", due is " + due, alike);
    }

    /** A plain generator with a fixed seed, so that every run of the test is the same. */
    private int draw(int below) {
        seed = seed * 6364136223846793005L + 1442695040888963407L;
        return (int) Math.floorMod(seed >>> 33, (long) below);
    }

    private int[] arguments(String name) {
        int[] with = {small(name), second(name), third(name)};
        if (draw(16) == 0) {
            with[draw(3)] = EDGES[draw(EDGES.length)];
        }
        return with;
    }

    private int small(String name) {
        switch (name) {
            case "say": return draw(40) == 0 ? draw(10000) : draw(vocabulary);
            case "letter": return draw(11881376);
            case "setPrice": return 1 + draw(5);
            case "wordAt": return draw(12);
            case "recall": return draw(Math.max(1, draw(13)));
            case "group": case "garble": case "swap": case "how": return draw(8);
            default: return draw(10) == 0 ? draw(3) : 0;
        }
    }

    private int second(String name) {
        switch (name) {
            case "letter": case "garble": return draw(5);
            case "swap": return draw(4);
            case "drop": case "entry": return draw(8);
            case "learn": return 1 + draw(4);
            default: return code();
        }
    }

    private int third(String name) {
        return name.equals("garble") ? draw(draw(3) == 0 ? 26 : 4) : draw(8) - 1;
    }

    /** Code words of few letters come near one another; others reach over the whole range. */
    private int code() {
        if (codes == 0) {
            return draw(11881376);
        }
        if (codes == 1 && draw(4) == 0) {
            return 11881375 - draw(60);
        }
        int code = 0;
        for (int place = 0; place < 5; place++) {
            code = code * 26 + draw(1 + codes);
        }
        return code;
    }

    private Object answer(String name, int a, int b, int c) {
        try {
            return name.equals("share") ? (Object) book.share(a) : (Object) number(name, a, b, c);
        } catch (RuntimeException thrown) {
            return thrown.getClass();
        }
    }

    private long number(String name, int a, int b, int c) {
        switch (name) {
            case "say": return book.say(a);
            case "empty": return book.empty();
            case "words": return book.words();
            case "wordAt": return book.wordAt(a);
            case "keep": return book.keep();
            case "recall": return book.recall(a);
            case "letter": return book.letter(a, b);
            case "reason": return book.reason(a, b);
            case "firstFit": return book.firstFit(a, b);
            case "define": return book.define(a, b);
            case "drop": return book.drop(a, b);
            case "entries": return book.entries(a);
            case "entry": return book.entry(a, b, c);
            case "find": return book.find(a, b);
            case "setPrice": return book.setPrice(a);
            case "encode": return book.encode(a);
            case "groups": return book.groups();
            case "group": return book.group(a);
            case "garble": return book.garble(a, b, c);
            case "swap": return book.swap(a, b);
            case "decode": return book.decode(a);
            case "how": return book.how(a);
            case "cost": return book.cost();
            case "time": return book.time();
            case "propose": return book.propose(a);
            case "learn": return book.learn(a, b);
            case "digest": return book.digest();
            default: throw new UnsupportedOperationException(name);
        }
    }
}
