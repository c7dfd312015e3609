import java.util.Random;

/** Random runs of calls, the same ones each time, answered by the class and by the plain model. */
public final class ModelTest {
    private static final Check check = new Check("ModelTest");
    private static final String LETTERS = "ikpdo";
    private static final int[] SPREADS = {4, 3, 3, 5, 3};

    private final Random random;
    private final TraceQuestions x = new TraceQuestions();
    private final PlainModel model = new PlainModel();
    private final int askers;
    private long time = 0;
    private int rows = 0;

    private ModelTest(int seed) {
        random = new Random(seed);
        askers = 1 + random.nextInt(3);
    }

    public static void main(String[] args) {
        for (int seed = 0; seed < 3000; seed++) {
            new ModelTest(seed).run(seed % 3);
        }
        check.end();
    }

    private void run(int kind) {
        int calls = 120;
        if (kind == 1) {
            askers(99);
        }
        for (int i = 0; i < (kind == 2 ? 310 : 12); i++) {
            row();
        }
        for (int i = 0; i < calls; i++) {
            call();
        }
    }

    private void askers(int count) {
        for (int i = 0; i < count; i++) {
            right();
        }
    }

    private int below(int end) {
        return random.nextInt(end);
    }

    private boolean seldom() {
        return below(40) == 0;
    }

    private int number(int end) {
        return seldom() ? below(5) == 0 ? random.nextInt() : below(2) == 0 ? -1 - below(2) : end + below(2) : below(end);
    }

    private int who() {
        return seldom() ? number(50) : below(askers);
    }

    private void call() {
        switch (below(16)) {
            case 0, 1 -> row();
            case 2, 3 -> right();
            case 4 -> {
                int field = number(5);
                boolean on = below(4) == 0;
                check.due("masked", x.masked(field, on), model.masked(field, on));
            }
            case 5 -> bound();
            case 6, 7 -> save();
            case 8, 9 -> tick();
            case 10 -> tellSaved();
            case 11 -> {
                int who = who();
                check.due("scan", x.scan(who), model.scan(who));
            }
            case 12 -> pages();
            default -> ask();
        }
    }

    private void row() {
        int[] f = new int[5];
        int[] ends = {1000, 20, 50, 20001, 100};
        for (int i = 0; i < 5; i++) {
            f[i] = below(300) == 0 ? number(ends[i]) : below(20) == 0 ? ends[i] - 1 - below(2) : below(SPREADS[i]);
        }
        int want = model.row(f);
        rows = Math.max(rows, want);
        check.due("row", x.row(f[0], f[1], f[2], f[3], f[4]), want);
    }

    private void right() {
        int who = who();
        int owner = below(4) == 0 ? -1 : below(3) == 0 ? number(100) : below(SPREADS[4]);
        int kind = below(4) == 0 ? -1 : below(3) == 0 ? number(20) : below(SPREADS[1]);
        check.due("right", x.right(who, owner, kind), model.right(who, owner, kind));
    }

    private void bound() {
        long steps = seldom() ? random.nextLong() : below(3) == 0 ? below(rows * 4 + 10) : 100000 + below(100);
        check.due("bound", x.bound(steps), model.bound(steps));
    }

    private String write() {
        String text = below(8) == 0 ? "" : spoilt(question());
        for (int i = 0; i < text.length(); i++) {
            x.sign(text.charAt(i));
            model.sign(text.charAt(i));
        }
        return text;
    }

    private void save() {
        String text = write();
        int who = who();
        long every = seldom() ? number(1001) : 1 + below(30);
        check.due("save of " + text, x.save(who, every), model.save(who, every));
    }

    private void tick() {
        long t = seldom() ? time + 1000 + below(3) : seldom() ? random.nextLong() : time - 1 + below(20);
        int want = model.tick(t);
        time = want < 0 ? time : t;
        check.due("tick", x.tick(t), want);
        tellSaved();
    }

    private void tellSaved() {
        for (int q = -1; q <= 21; q++) {
            check.due("saved(" + q + ")", x.saved(q), model.saved(q));
        }
    }

    private void ask() {
        String text = write();
        int who = who();
        int want = model.ask(who);
        check.due("ask of " + text, x.ask(who), want);
        check.due("cost of " + text, x.cost(), model.cost());
        for (int i = -1; i <= Math.max(3, want); i++) {
            for (int what = -1; what <= 6; what++) {
                check.due("found(" + i + ", " + what + ") of " + text, x.found(i, what), model.found(i, what));
            }
        }
        pages();
    }

    private void pages() {
        long moment = seldom() ? number(301) : below(rows + 1);
        int n = seldom() ? number(31) : below(3);
        for (int i = -1; i <= 10; i++) {
            check.due("page(" + n + ", " + moment + ", " + i + ")", x.page(n, moment, i), model.page(n, moment, i));
        }
    }

    private String question() {
        String tail = below(2) == 0 ? "" : "" + "#+-".charAt(below(3)) + LETTERS.charAt(below(5));
        return (below(6) == 0 ? "" : condition(below(60) == 0 ? 14 : below(5))) + tail;
    }

    private String condition(int depth) {
        StringBuilder text = new StringBuilder(test(depth));
        int more = below(40) == 0 ? 45 : below(3);
        for (int i = 0; i < more && text.length() < 230; i++) {
            text.append(below(2) == 0 ? '&' : '|').append(test(depth - 1));
        }
        return text.toString();
    }

    private String test(int depth) {
        if (depth <= 0 || below(4) == 0) {
            int field = below(5);
            String number = below(10) == 0 ? "" + below(1000000) : (below(9) == 0 ? "00" : "") + below(SPREADS[field]);
            return "" + LETTERS.charAt(field) + "=<>".charAt(below(3)) + number;
        }
        if (below(2) == 0) {
            return Check.times(seldom() ? 1 + below(25) : 1, "!") + test(depth - 1);
        }
        int times = seldom() ? 1 + below(22) : 1;
        return Check.times(times, "(") + condition(depth - 1) + Check.times(times, ")");
    }

    /** Most texts as they are, and some with a sign gone, come, or changed. */
    private String spoilt(String text) {
        if (below(4) != 0 || text.isEmpty()) {
            return text;
        }
        int at = below(text.length());
        String signs = "ikpdo=<>&|!()#+-0123456789 xI~";
        char sign = signs.charAt(below(signs.length()));
        switch (below(4)) {
            case 0:
                return text.substring(0, at);
            case 1:
                return text.substring(0, at) + text.substring(at + 1);
            case 2:
                return text.substring(0, at) + sign + text.substring(at);
            default:
                return text.substring(0, at) + sign + text.substring(at + 1);
        }
    }
}
