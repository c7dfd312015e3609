import java.util.ArrayList;
import java.util.Comparator;
import java.util.HashSet;
import java.util.List;
import java.util.Set;
import java.util.TreeMap;
import java.util.function.Predicate;

/**
 * The document said a second time, in another way than the class: with the library, texts kept as
 * texts and read anew at each asking, the clock going unit by unit. ModelTest holds both together.
 */
final class PlainModel {

    private static final class Fault extends Exception {
        private static final long serialVersionUID = 1;
        final int place;

        Fault(int place) {
            this.place = place;
        }
    }

    private record Asked(int who, String text) { }

    private record Kept(Asked asked, long every, long since, long[] latest) { }

    private record Read(Predicate<int[]> condition, int tests, char tail, int tailField) { }

    /** What was found: row by row its number, or group by group its value and count. */
    private record Answer(boolean groups, List<int[]> entries) { }

    private final List<int[]> rows = new ArrayList<>();
    private final List<List<Long>> rights = new ArrayList<>();
    private final Set<Integer> masks = new HashSet<>();
    private final List<Kept> kept = new ArrayList<>();
    private String text = "";
    private long cost = 0;
    private int bound = 100000;
    private long time = 0;
    private Asked latest = null;
    private Answer answer = new Answer(false, List.of());

    int countOfRows() {
        return rows.size();
    }

    int countOfFound() {
        return answer.entries.size();
    }

    long time() {
        return time;
    }

    int row(int... fields) {
        int[] ends = {999, 19, 49, 20000, 99};
        for (int f = 0; f < 5; f++) {
            if (fields[f] < 0 || fields[f] > ends[f]) {
                return TraceQuestions.OUTSIDE;
            }
        }
        if (rows.size() == 300) {
            return TraceQuestions.ROOM;
        }
        rows.add(fields);
        return rows.size();
    }

    void sign(int c) {
        if (text.length() < 200 && c >= 32 && c <= 126) {
            text += (char) c;
        }
    }

    private String takeText() {
        String taken = text;
        text = "";
        return taken;
    }

    int ask(int who) {
        if (who < 0 || who > 49) {
            return TraceQuestions.UNKNOWN;
        }
        Asked asked = new Asked(who, takeText());
        try {
            Read read = new Parser(asked.text, masks).question();
            cost = (long) rows.size() * (1 + read.tests);
            if (cost > bound) {
                return TraceQuestions.DEAR;
            }
            latest = asked;
            answer = search(asked, rows.size(), masks);
            return answer.entries.size();
        } catch (Fault fault) {
            return -1 - fault.place;
        }
    }

    long found(int i, int what) {
        if (i < 0 || i >= answer.entries.size()) {
            return -1;
        }
        int[] entry = answer.entries.get(i);
        if (answer.groups) {
            return what == 0 || what == 1 ? entry[what] : -1;
        }
        if (what == 0) {
            return entry[0];
        }
        return what < 1 || what > 5 || masks.contains(what - 1) ? -1 : rows.get(entry[0] - 1)[what - 1];
    }

    int page(int n, long moment, int i) {
        if (n < 0 || moment < 0 || moment > rows.size() || i < 0 || i > 9) {
            return TraceQuestions.OUTSIDE;
        }
        if (latest == null) {
            return -1;
        }
        try {
            List<int[]> entries = search(latest, (int) moment, Set.of()).entries;
            return n > 1000 || n * 10 + i >= entries.size() ? -1 : entries.get(n * 10 + i)[0];
        } catch (Fault fault) {
            throw new IllegalStateException("a question that was answered has no fault");
        }
    }

    int right(int who, int owner, int kind) {
        if (who < 0 || who > 49) {
            return TraceQuestions.UNKNOWN;
        }
        if (owner < -1 || owner > 99 || kind < -1 || kind > 19) {
            return TraceQuestions.OUTSIDE;
        }
        List<Long> right = List.of((long) who, (long) owner, (long) kind);
        if (!rights.contains(right)) {
            if (rights.size() == 100) {
                return TraceQuestions.ROOM;
            }
            rights.add(right);
        }
        return (int) rights.stream().filter(r -> r.get(0) == who).count();
    }

    int masked(int field, boolean on) {
        if (field < 0 || field > 4) {
            return TraceQuestions.OUTSIDE;
        }
        return (on ? masks.add(field) : masks.remove(field)) ? 1 : 0;
    }

    long cost() {
        return cost;
    }

    int bound(long steps) {
        if (steps < 0 || steps > 1000000) {
            return TraceQuestions.OUTSIDE;
        }
        int before = bound;
        bound = (int) steps;
        return before;
    }

    int save(int who, long every) {
        if (who < 0 || who > 49) {
            return TraceQuestions.UNKNOWN;
        }
        if (every < 1 || every > 1000) {
            return TraceQuestions.OUTSIDE;
        }
        Asked asked = new Asked(who, takeText());
        try {
            new Parser(asked.text, masks).question();
        } catch (Fault fault) {
            return -1 - fault.place;
        }
        if (kept.size() == 20) {
            return TraceQuestions.ROOM;
        }
        kept.add(new Kept(asked, every, time, new long[] {-1}));
        return kept.size();
    }

    int tick(long t) {
        if (t < time || t > time + 1000) {
            return TraceQuestions.OUTSIDE;
        }
        int times = 0;
        while (time < t) {
            time++;
            for (Kept one : kept) {
                if ((time - one.since) % one.every == 0) {
                    times++;
                    one.latest[0] = count(one.asked);
                }
            }
        }
        return times;
    }

    private int count(Asked asked) {
        try {
            Read read = new Parser(asked.text, masks).question();
            return (long) rows.size() * (1 + read.tests) > bound ? -1
                    : search(asked, rows.size(), masks).entries.size();
        } catch (Fault fault) {
            return -1;
        }
    }

    int saved(int question) {
        return question < 1 || question > kept.size() ? TraceQuestions.UNKNOWN
                : (int) kept.get(question - 1).latest[0];
    }

    int scan(int who) {
        return who < 0 || who > 49 ? TraceQuestions.UNKNOWN
                : (int) rows.stream().filter(row -> sees(who, row)).count();
    }

    private boolean sees(int who, int[] row) {
        return rights.stream().anyMatch(r -> r.get(0) == who
                && (r.get(1) == -1 || r.get(1) == row[4]) && (r.get(2) == -1 || r.get(2) == row[1]));
    }

    private Answer search(Asked asked, int moment, Set<Integer> masksThen) throws Fault {
        Read read = new Parser(asked.text, masksThen).question();
        List<int[]> entries = new ArrayList<>();
        for (int number = 1; number <= moment; number++) {
            int[] row = rows.get(number - 1);
            if (sees(asked.who, row) && read.condition.test(row)) {
                entries.add(new int[] {number});
            }
        }
        Comparator<int[]> byField = Comparator.comparingInt(e -> rows.get(e[0] - 1)[read.tailField]);
        if (read.tail == '+') {
            entries.sort(byField);
        }
        if (read.tail == '-') {
            entries.sort(byField.reversed());
        }
        if (read.tail != '#') {
            return new Answer(false, entries);
        }
        TreeMap<Integer, Integer> groups = new TreeMap<>();
        entries.forEach(e -> groups.merge(rows.get(e[0] - 1)[read.tailField], 1, Integer::sum));
        List<int[]> pairs = new ArrayList<>();
        groups.forEach((value, howMany) -> pairs.add(new int[] {value, howMany}));
        return new Answer(true, pairs);
    }

    /** Reads a question by the rules of the language, one within another. */
    private static final class Parser {
        private final String text;
        private final Set<Integer> masks;
        private int at = 0;
        private int tests = 0;

        Parser(String text, Set<Integer> masks) {
            this.text = text;
            this.masks = masks;
        }

        Read question() throws Fault {
            Predicate<int[]> condition = row -> true;
            if (at < text.length() && "#+-".indexOf(text.charAt(at)) < 0) {
                condition = condition(0);
            }
            char tail = ' ';
            int field = 0;
            if (at < text.length()) {
                tail = one("#+-");
                field = field();
            }
            if (at < text.length()) {
                throw new Fault(at);
            }
            return new Read(condition, tests, tail, field);
        }

        private boolean isNext(char c) {
            return at < text.length() && text.charAt(at) == c;
        }

        private char one(String of) throws Fault {
            if (at >= text.length() || of.indexOf(text.charAt(at)) < 0) {
                throw new Fault(at);
            }
            return text.charAt(at++);
        }

        private int field() throws Fault {
            int field = Check.LETTERS.indexOf(one(Check.LETTERS));
            if (masks.contains(field)) {
                throw new Fault(at - 1);
            }
            return field;
        }

        private Predicate<int[]> condition(int depth) throws Fault {
            Predicate<int[]> all = part(depth);
            while (isNext('|')) {
                at++;
                all = all.or(part(depth));
            }
            return all;
        }

        private Predicate<int[]> part(int depth) throws Fault {
            Predicate<int[]> all = test(depth);
            while (isNext('&')) {
                at++;
                all = all.and(test(depth));
            }
            return all;
        }

        private Predicate<int[]> test(int depth) throws Fault {
            if (isNext('!') || isNext('(')) {
                if (depth == 20) {
                    throw new Fault(at);
                }
                if (text.charAt(at++) == '!') {
                    return test(depth + 1).negate();
                }
                Predicate<int[]> inner = condition(depth + 1);
                one(")");
                return inner;
            }
            int field = field();
            if (++tests > 40) {
                throw new Fault(at - 1);
            }
            char relation = one("=<>");
            String figures = "" + one("0123456789");
            while (figures.length() < 5 && at < text.length() && Character.isDigit(text.charAt(at))) {
                figures += text.charAt(at++);
            }
            int number = Integer.parseInt(figures);
            return row -> relation == '=' ? row[field] == number
                    : relation == '<' ? row[field] < number : row[field] > number;
        }
    }
}
