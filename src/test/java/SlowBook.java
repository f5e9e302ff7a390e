import java.util.ArrayList;
import java.util.List;

/**
 * The document once more, told in another and slower way (texts, lists, whole searches),
 * so that ModelTest can compare. A call that is to throw answers with the exception's class.
 */
final class SlowBook {
    private record Entry(String code, List<Integer> phrase) { }

    private final List<List<Entry>> books = List.of(new ArrayList<>(), new ArrayList<>(), new ArrayList<>());
    private final List<List<Integer>> kept = new ArrayList<>();
    /** Groups as texts: five letters, or a number. */
    private final List<String> message = new ArrayList<>();
    private List<Integer> line = new ArrayList<>();
    private List<Integer> readings = new ArrayList<>();
    private int price = 2;

    Object call(String name, int a, int b, int c) {
        switch (name) {
            case "say": return say(a);
            case "empty": return emptied();
            case "words": return (long) line.size();
            case "wordAt": return a < 0 || a >= line.size() ? Check.INDEX : (Object) (long) line.get(a);
            case "keep": return keep();
            case "recall": return recall(a);
            case "letter": return !isCode(a) ? Check.ARGUMENT : b < 0 || b > 4 ? Check.INDEX
                    : (Object) (long) (text(a).charAt(b) - 'a');
            case "setPrice": return setPrice(a);
            case "groups": return (long) message.size();
            case "group": return a < 0 || a >= message.size() ? Check.INDEX : (Object) told(message.get(a));
            case "garble": return garble(a, b, c);
            case "swap": return swap(a, b);
            case "how": return a < 0 || a >= readings.size() ? Check.INDEX : (Object) (long) readings.get(a);
            case "cost": return cost(message);
            case "time": return time();
            case "digest": return digest();
            default: return a < 0 || a > 2 ? Check.INDEX : ofBook(name, books.get(a), b, c);
        }
    }

    private Object ofBook(String name, List<Entry> book, int b, int c) {
        switch (name) {
            case "reason": return !isCode(b) ? Check.ARGUMENT : (Object) (long) reason(book, text(b));
            case "firstFit": return !isCode(b) ? Check.ARGUMENT : (Object) (long) firstFit(book, b);
            case "define": return define(book, b);
            case "drop": return drop(book, b);
            case "entries": return (long) book.size();
            case "entry": return entry(book, b, c);
            case "find": return !isCode(b) ? Check.ARGUMENT : (Object) (long) find(book, text(b));
            case "encode": return encode(book);
            case "decode": return decode(book);
            case "share": return share(book);
            case "propose": return propose(book);
            case "learn": return b < 1 || b > 40 ? Check.ARGUMENT : (Object) learn(book, b);
            default: throw new IllegalArgumentException(name);
        }
    }

    // ---- lines

    private Object say(int word) {
        if (word < 0 || word > 9999) {
            return Check.ARGUMENT;
        }
        if (line.size() == 40) {
            return Check.STATE;
        }
        line.add(word);
        return (long) line.size();
    }

    private long emptied() {
        long had = line.size();
        line = new ArrayList<>();
        return had;
    }

    private Object keep() {
        if (line.isEmpty() || kept.size() == 12) {
            return Check.STATE;
        }
        kept.add(line);
        line = new ArrayList<>();
        return (long) kept.size();
    }

    private Object recall(int number) {
        if (number < 0 || number >= kept.size()) {
            return Check.INDEX;
        }
        line = new ArrayList<>(kept.get(number));
        return (long) line.size();
    }

    // ---- books

    private static boolean isCode(int code) {
        return code >= 0 && code <= 11881375;
    }

    static String text(int code) {
        String text = Integer.toString(code, 26);
        StringBuilder letters = new StringBuilder();
        for (int pad = text.length(); pad < 5; pad++) {
            letters.append('a');
        }
        for (char sign : text.toCharArray()) {
            letters.append((char) ('a' + Character.digit(sign, 26)));
        }
        return letters.toString();
    }

    private static String swapped(String code, int place) {
        return code.substring(0, place) + code.charAt(place + 1) + code.charAt(place) + code.substring(place + 2);
    }

    private static boolean differsInOne(String one, String other) {
        int same = 0;
        for (int place = 0; place < 5; place++) {
            same += one.charAt(place) == other.charAt(place) ? 1 : 0;
        }
        return same == 4;
    }

    private static boolean becomes(String one, String other) {
        return swapped(one, 0).equals(other) || swapped(one, 1).equals(other)
                || swapped(one, 2).equals(other) || swapped(one, 3).equals(other);
    }

    private static int reason(List<Entry> book, String code) {
        if (book.size() == 40) {
            return 1;
        }
        if (book.stream().anyMatch(entry -> entry.code.equals(code))) {
            return 2;
        }
        if (book.stream().anyMatch(entry -> differsInOne(entry.code, code))) {
            return 3;
        }
        return book.stream().anyMatch(entry -> becomes(entry.code, code)) ? 4 : 0;
    }

    private static int firstFit(List<Entry> book, int from) {
        for (int further = 0; further <= 2000; further++) {
            if (isCode(from + further) && reason(book, text(from + further)) == 0) {
                return from + further;
            }
        }
        return -1;
    }

    private Object define(List<Entry> book, int code) {
        if (!isCode(code)) {
            return Check.ARGUMENT;
        }
        if (reason(book, text(code)) != 0 || line.isEmpty() || line.size() > 6) {
            return Check.STATE;
        }
        book.add(new Entry(text(code), line));
        line = new ArrayList<>();
        return (long) book.size() - 1;
    }

    private static Object drop(List<Entry> book, int entry) {
        if (entry < 0 || entry >= book.size()) {
            return Check.INDEX;
        }
        book.remove(entry);
        return (long) book.size();
    }

    private static Object entry(List<Entry> book, int number, int what) {
        if (number < 0 || number >= book.size() || what < -1 || what >= book.get(number).phrase.size()) {
            return Check.INDEX;
        }
        Entry entry = book.get(number);
        return what == -1 ? told(entry.code) : (long) entry.phrase.get(what);
    }

    private static int find(List<Entry> book, String code) {
        for (Entry entry : book) {
            if (entry.code.equals(code)) {
                return book.indexOf(entry);
            }
        }
        return -1;
    }

    // ---- messages

    private Object setPrice(int to) {
        if (to < 1 || to > 5) {
            return Check.ARGUMENT;
        }
        long before = price;
        price = to;
        return before;
    }

    private static boolean isPlain(String group) {
        return Character.isDigit(group.charAt(0));
    }

    private static long told(String group) {
        return isPlain(group) ? -1 - Long.parseLong(group) : Check.code(group);
    }

    private long cost(List<String> groups) {
        return groups.stream().mapToLong(group -> isPlain(group) ? price : 1).sum();
    }

    /** Least costs from each place on, then pieces sorted by the document's order of preference. */
    private List<String> divide(List<Entry> book, List<Integer> words) {
        int[] least = new int[words.size() + 1];
        for (int at = words.size() - 1; at >= 0; at--) {
            least[at] = Integer.MAX_VALUE;
            for (Entry piece : piecesAt(book, words, at)) {
                least[at] = Math.min(least[at], costOf(piece) + least[at + piece.phrase.size()]);
            }
        }
        List<String> groups = new ArrayList<>();
        int at = 0;
        while (at < words.size()) {
            List<Entry> best = new ArrayList<>();
            for (Entry piece : piecesAt(book, words, at)) {
                if (costOf(piece) + least[at + piece.phrase.size()] == least[at]) {
                    best.add(piece);
                }
            }
            best.sort((one, other) -> {
                int bySize = other.phrase.size() - one.phrase.size();
                int byKind = (isPlain(one.code) ? 1 : 0) - (isPlain(other.code) ? 1 : 0);
                return bySize != 0 ? bySize : byKind != 0 ? byKind : one.code.compareTo(other.code);
            });
            groups.add(best.get(0).code);
            at += best.get(0).phrase.size();
        }
        return groups;
    }

    private int costOf(Entry piece) {
        return isPlain(piece.code) ? price : 1;
    }

    private static List<Entry> piecesAt(List<Entry> book, List<Integer> words, int at) {
        List<Entry> pieces = new ArrayList<>();
        pieces.add(new Entry(String.valueOf(words.get(at)), words.subList(at, at + 1)));
        for (Entry entry : book) {
            int end = at + entry.phrase.size();
            if (end <= words.size() && words.subList(at, end).equals(entry.phrase)) {
                pieces.add(entry);
            }
        }
        return pieces;
    }

    private long encode(List<Entry> book) {
        message.clear();
        message.addAll(divide(book, line));
        return cost(message);
    }

    private Object garble(int group, int place, int letter) {
        if (group < 0 || group >= message.size() || place < 0 || place > 4) {
            return Check.INDEX;
        }
        if (letter < 0 || letter > 25) {
            return Check.ARGUMENT;
        }
        String code = message.get(group);
        if (isPlain(code)) {
            return Check.STATE;
        }
        message.set(group, code.substring(0, place) + (char) ('a' + letter) + code.substring(place + 1));
        return (long) code.charAt(place) - 'a';
    }

    private Object swap(int group, int place) {
        if (group < 0 || group >= message.size() || place < 0 || place > 3) {
            return Check.INDEX;
        }
        if (isPlain(message.get(group))) {
            return Check.STATE;
        }
        message.set(group, swapped(message.get(group), place));
        return told(message.get(group));
    }

    private long decode(List<Entry> book) {
        List<Integer> read = new ArrayList<>();
        readings = new ArrayList<>();
        long lost = 0;
        for (String group : message) {
            List<Entry> exact = book.stream().filter(entry -> entry.code.equals(group)).toList();
            List<Entry> alike = isPlain(group) ? List.of() : book.stream()
                    .filter(entry -> differsInOne(entry.code, group) || becomes(entry.code, group)).toList();
            if (isPlain(group)) {
                read.add(Integer.parseInt(group));
                readings.add(0);
            } else if (!exact.isEmpty()) {
                read.addAll(exact.get(0).phrase);
                readings.add(1);
            } else if (alike.size() == 1) {
                read.addAll(alike.get(0).phrase);
                readings.add(2);
            } else {
                readings.add(3);
                lost++;
            }
        }
        line = new ArrayList<>(read.subList(0, Math.min(40, read.size())));
        return lost;
    }

    private long time() {
        int[] letters = {5, 9, 11, 7, 1, 9, 9, 7, 3, 13, 9, 9, 7, 5, 11, 11, 13, 7, 5, 3, 7, 9, 9, 11, 13, 11};
        int[] digits = {19, 17, 15, 13, 11, 9, 11, 13, 15, 17};
        long units = 0;
        for (String group : message) {
            String sent = isPlain(group) ? String.format("%04d", Integer.parseInt(group)) : group;
            for (char sign : sent.toCharArray()) {
                units += 3 + (Character.isDigit(sign) ? digits[sign - '0'] : letters[sign - 'a']);
            }
            units += 7 - 3;
        }
        return message.isEmpty() ? 0 : units - 7;
    }

    private double share(List<Entry> book) {
        double costs = 0;
        double words = 0;
        for (List<Integer> each : kept) {
            costs += cost(divide(book, each));
            words += each.size();
        }
        return kept.isEmpty() ? 1 : costs / (price * words);
    }

    // ---- proposals

    private int times(List<Integer> phrase) {
        int times = 0;
        for (List<Integer> each : kept) {
            int at = 0;
            while (at + phrase.size() <= each.size()) {
                boolean stands = each.subList(at, at + phrase.size()).equals(phrase);
                times += stands ? 1 : 0;
                at += stands ? phrase.size() : 1;
            }
        }
        return times;
    }

    private long propose(List<Entry> book) {
        List<Integer> best = null;
        int most = 0;
        for (int size = 2; size <= 6; size++) {
            for (List<Integer> each : kept) {
                for (int at = 0; at + size <= each.size(); at++) {
                    List<Integer> phrase = each.subList(at, at + size);
                    int times = times(phrase);
                    int saving = times * (size * price - 1);
                    if (times >= 2 && saving > most && book.stream().noneMatch(e -> e.phrase.equals(phrase))) {
                        best = phrase;
                        most = saving;
                    }
                }
            }
        }
        if (best != null) {
            line = new ArrayList<>(best);
        }
        return most;
    }

    private long learn(List<Entry> book, int most) {
        long added = 0;
        while (added < most && propose(book) > 0) {
            int code = firstFit(book, book.isEmpty() ? 0 : Check.code(book.get(book.size() - 1).code));
            if (code == -1) {
                break;
            }
            book.add(new Entry(text(code), line));
            added++;
        }
        line = new ArrayList<>();
        return added;
    }

    private long digest() {
        List<Long> numbers = new ArrayList<>();
        numbers.add((long) price);
        addRow(numbers, line);
        for (List<Entry> book : books) {
            numbers.add((long) book.size());
            for (Entry entry : book) {
                numbers.add(told(entry.code));
                addRow(numbers, entry.phrase);
            }
        }
        numbers.add((long) message.size());
        message.forEach(group -> numbers.add(told(group)));
        numbers.add((long) kept.size());
        kept.forEach(each -> addRow(numbers, each));
        long sum = 379;
        for (long number : numbers) {
            sum = sum * 31 + number;
        }
        return sum;
    }

    private static void addRow(List<Long> numbers, List<Integer> words) {
        numbers.add((long) words.size());
        words.forEach(word -> numbers.add((long) word));
    }
}
