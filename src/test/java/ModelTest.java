import java.util.Random;
import java.util.function.LongSupplier;

/** Random runs of calls, the same ones each time, answered by the class and by the plain model. */
public final class ModelTest {
    private static final Check check = new Check("ModelTest");
    private static final int[] SPREADS = {4, 3, 3, 5, 3};
    private static final int RUNS = 12000;
    // Nothing is promised of an object after so many.
    private static final int CALLS_MOST = 512;

    private final Random random;
    private final TraceQuestions x = new TraceQuestions();
    private final PlainModel model = new PlainModel();
    private final int askers;
    private int calls = 0;

    private ModelTest(int seed) {
        random = new Random(seed);
        askers = 1 + random.nextInt(3);
    }

    public static void main(String[] args) {
        for (int seed = 0; seed < RUNS; seed++) {
            new ModelTest(seed).run(seed % 4);
        }
        check.end();
    }

    /** Rows to begin with: some, or more than there may be; or the most rights, or questions. */
    private void run(int kind) {
        for (int i = 0; i < (kind == 1 ? 99 : 0); i++) {
            right();
        }
        for (int i = 0; i < (kind == 2 ? 302 : 12); i++) {
            row();
        }
        for (int i = 0; i < (kind == 3 ? 18 : 0); i++) {
            save("+i");
        }
        while (calls < CALLS_MOST) {
            call();
        }
    }

    /** One call of both, if there is still one to make. */
    private void due(String call, LongSupplier got, LongSupplier want) {
        if (calls < CALLS_MOST) {
            calls++;
            check.due(call, got.getAsLong(), want.getAsLong());
        }
    }

    private int below(int end) {
        return random.nextInt(end);
    }

    private boolean seldom() {
        return below(40) == 0;
    }

    private int number(int end) {
        if (!seldom()) {
            return below(end);
        }
        return below(5) == 0 ? random.nextInt() : below(2) == 0 ? -1 - below(2) : end + below(2);
    }

    private int who() {
        return seldom() ? number(50) : below(askers);
    }

    private void call() {
        switch (below(16)) {
            case 0, 1 -> row();
            case 2 -> right();
            case 3 -> masked();
            case 4 -> bound();
            case 5, 6 -> save(text());
            case 7, 8 -> tick();
            case 9 -> saved();
            case 10 -> scan();
            case 11 -> page();
            case 12 -> found();
            default -> ask();
        }
    }

    private void row() {
        int[] f = new int[5];
        for (int i = 0; i < 5; i++) {
            int end = Check.greatest(i) + 1;
            f[i] = below(300) == 0 ? number(end) : below(20) == 0 ? end - 1 - below(2) : below(SPREADS[i]);
        }
        due("row", () -> x.row(f[0], f[1], f[2], f[3], f[4]), () -> model.row(f));
    }

    private void right() {
        int who = who();
        int owner = below(4) == 0 ? -1 : below(3) == 0 ? number(100) : below(SPREADS[4]);
        int kind = below(4) == 0 ? -1 : below(3) == 0 ? number(20) : below(SPREADS[1]);
        due("right", () -> x.right(who, owner, kind), () -> model.right(who, owner, kind));
    }

    private void masked() {
        int field = number(5);
        boolean on = below(4) == 0;
        due("masked", () -> x.masked(field, on), () -> model.masked(field, on));
    }

    private void bound() {
        int near = model.countOfRows() * (1 + below(4)) - below(2);
        long steps = seldom() ? random.nextLong() : below(3) == 0 ? near : 100000 + below(100);
        due("bound", () -> x.bound(steps), () -> model.bound(steps));
    }

    private void write(String text) {
        for (int i = 0; i < text.length() && calls < CALLS_MOST; i++) {
            calls++;
            x.sign(text.charAt(i));
            model.sign(text.charAt(i));
        }
    }

    private void save(String text) {
        write(text);
        int who = who();
        long every = seldom() ? number(1001) : 1 + below(30);
        due("save of " + text, () -> x.save(who, every), () -> model.save(who, every));
    }

    private void tick() {
        long time = model.time();
        long t = seldom() ? time + 1000 + below(3) : seldom() ? random.nextLong() : time - 1 + below(20);
        due("tick", () -> x.tick(t), () -> model.tick(t));
        for (int i = 0; i < 3; i++) {
            saved();
        }
    }

    private void saved() {
        int question = below(23) - 1;
        due("saved(" + question + ")", () -> x.saved(question), () -> model.saved(question));
    }

    private void scan() {
        int who = who();
        due("scan(" + who + ")", () -> x.scan(who), () -> model.scan(who));
    }

    private void ask() {
        String text = text();
        write(text);
        int who = who();
        due("ask of " + text, () -> x.ask(who), () -> model.ask(who));
        due("cost of " + text, () -> x.cost(), () -> model.cost());
        for (int i = 0; i < 8; i++) {
            found();
        }
        for (int i = 0; i < 4; i++) {
            page();
        }
    }

    /** Of the first ones mostly, of the last ones, and behind them. */
    private void found() {
        int last = model.countOfFound() - 1;
        int i = below(3) == 0 ? last - 1 + below(3) : below(3) == 0 ? below(last + 2) : below(4) - (seldom() ? 1 : 0);
        int what = below(3) == 0 ? 0 : below(8) - 1;
        due("found(" + i + ", " + what + ")", () -> x.found(i, what), () -> model.found(i, what));
    }

    private void page() {
        int rows = model.countOfRows();
        long moment = seldom() ? number(301) : below(2) == 0 ? rows : below(rows + 1);
        int n = seldom() ? number(31) : below(3) == 0 ? below(rows / 10 + 1) : 0;
        int i = seldom() ? number(10) : below(10);
        due("page(" + n + ", " + moment + ", " + i + ")", () -> x.page(n, moment, i), () -> model.page(n, moment, i));
    }

    private String text() {
        return below(8) == 0 ? "" : spoilt(question());
    }

    private String question() {
        String tail = below(2) == 0 ? "" : "" + "#+-".charAt(below(3)) + Check.letter(below(5));
        return (below(6) == 0 ? "" : condition(below(60) == 0 ? 14 : below(5))) + tail;
    }

    private String condition(int depth) {
        StringBuilder text = new StringBuilder(test(depth));
        int more = below(40) == 0 ? 45 : below(3);
        for (int i = 0; i < more && text.length() < 230; i++) {
            text.append(below(2) == 0 ? '&' : '|').append(test(depth - 1));
        }
        return text.toString();
    }

    private String test(int depth) {
        if (depth <= 0 || below(4) == 0) {
            int field = below(5);
            String number = below(10) == 0 ? "" + below(1000000) : (below(9) == 0 ? "00" : "") + below(SPREADS[field]);
            return "" + Check.letter(field) + "=<>".charAt(below(3)) + number;
        }
        if (below(2) == 0) {
            return Check.times(seldom() ? 1 + below(25) : 1, "!") + test(depth - 1);
        }
        int times = seldom() ? 1 + below(22) : 1;
        return Check.times(times, "(") + condition(depth - 1) + Check.times(times, ")");
    }

    /** Most texts as they are, and some with a sign gone, come, or changed. */
    private String spoilt(String text) {
        if (below(4) != 0 || text.isEmpty()) {
            return text;
        }
        int at = below(text.length());
        String signs = "ikpdo=<>&|!()#+-0123456789 xI~";
        char sign = signs.charAt(below(signs.length()));
        switch (below(4)) {
            case 0:
                return text.substring(0, at);
            case 1:
                return text.substring(0, at) + text.substring(at + 1);
            case 2:
                return text.substring(0, at) + sign + text.substring(at);
            default:
                return text.substring(0, at) + sign + text.substring(at + 1);
        }
    }
}
