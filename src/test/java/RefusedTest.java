import java.util.ArrayList;
import java.util.List;
import java.util.function.Supplier;
import java.util.function.ToLongFunction;

/**
 * REFUSALS: which comes first of several, and that a call that is refused changes nothing but what is
 * said of texts and of cost(); nor does a call that only tells, or a character that is not taken.
 * Two objects are made alike, one of them is given the call, and both are asked all that there is.
 */
public final class RefusedTest {
    private static final Check check = new Check("RefusedTest");
    private static final int UNKNOWN = TraceQuestions.UNKNOWN;
    private static final int OUTSIDE = TraceQuestions.OUTSIDE;
    private static final int DEAR = TraceQuestions.DEAR;
    private static final int ROOM = TraceQuestions.ROOM;
    private static final String THIRTEEN_TESTS = Check.times(12, "i=1|") + "i=1";

    /** An object in some state, and the time there. */
    private record State(String name, long time, Supplier<TraceQuestions> maker) {
        TraceQuestions with(String text) {
            TraceQuestions x = maker.get();
            Check.write(x, text);
            return x;
        }
    }

    /** A call, and what it is to answer: 0 where the answer does not matter. */
    private record Call(String name, ToLongFunction<TraceQuestions> call, long want) { }

    private static final State NEW = new State("new", 0, () -> new TraceQuestions());
    private static final State SOME = new State("some of all", 7, () -> some());
    private static final State ROWS = new State("300 rows", 0, () -> manyRows());
    private static final State RIGHTS = new State("100 rights", 0, () -> manyRights());
    private static final State KEPT = new State("20 kept", 3, () -> manyKept());
    private static final List<State> STATES = List.of(NEW, SOME, ROWS, RIGHTS, KEPT);

    public static void main(String[] args) {
        for (State state : STATES) {
            for (Call call : refusedEverywhere(state.time)) {
                dueNoChange(state, call, "k=2", "k=2");
            }
            for (Call call : tellingAlone()) {
                dueNoChange(state, call, "k=2", "k=2");
            }
            dueNoChange(state, new Call("ask with a fault", x -> x.ask(0), -5), "i=1&", "");
            dueNoChange(state, new Call("ask with a fault behind much", x -> x.ask(0), -52), THIRTEEN_TESTS + " ", "");
            dueNoChange(state, new Call("save with a fault", x -> x.save(0, 5), -5), "i=1&", "");
        }
        noRoom();
        dear();
        whichComesFirst();
        check.end();
    }

    private static TraceQuestions some() {
        TraceQuestions x = Check.fourRows();
        x.tick(3);
        x.masked(2, true);
        Check.write(x, "i=7");
        x.save(0, 4);
        Check.write(x, "#k");
        x.save(1, 6);
        x.tick(7);
        Check.write(x, "i=7|k=2-d");
        x.ask(0);
        x.bound(50);
        return x;
    }

    private static TraceQuestions manyRows() {
        TraceQuestions x = Check.rows(300);
        Check.write(x, "i>3-i");
        x.ask(0);
        return x;
    }

    private static TraceQuestions manyRights() {
        TraceQuestions x = new TraceQuestions();
        for (int i = 0; i < 100; i++) {
            x.right(i % 50, i, i % 20);
        }
        x.row(1, 0, 1, 1, 0);
        x.row(2, 10, 1, 1, 50);
        Check.write(x, "#i");
        x.ask(0);
        return x;
    }

    private static TraceQuestions manyKept() {
        TraceQuestions x = Check.fourRows();
        for (int i = 1; i <= 20; i++) {
            Check.write(x, i % 2 == 0 ? "i=7" : "");
            x.save(0, i);
        }
        x.tick(3);
        return x;
    }

    private static List<Call> refusedEverywhere(long time) {
        List<Call> calls = new ArrayList<>();
        for (int who : new int[] {-1, 50, Integer.MIN_VALUE, Integer.MAX_VALUE}) {
            calls.add(new Call("ask(" + who + ")", x -> x.ask(who), UNKNOWN));
            calls.add(new Call("right(" + who + ", 98, 18)", x -> x.right(who, 98, 18), UNKNOWN));
            calls.add(new Call("save(" + who + ", 1)", x -> x.save(who, 1), UNKNOWN));
            calls.add(new Call("scan(" + who + ")", x -> x.scan(who), UNKNOWN));
        }
        for (int field = 0; field < 5; field++) {
            for (int value : new int[] {-1, Check.greatest(field) + 1}) {
                int[] f = {1, 1, 1, 1, 1};
                f[field] = value;
                calls.add(new Call("row with " + value, x -> x.row(f[0], f[1], f[2], f[3], f[4]), OUTSIDE));
            }
        }
        for (int i : new int[] {-1, 10}) {
            calls.add(new Call("page(0, 0, " + i + ")", x -> x.page(0, 0, i), OUTSIDE));
        }
        calls.add(new Call("page(-1, 0, 0)", x -> x.page(-1, 0, 0), OUTSIDE));
        calls.add(new Call("page(0, -1, 0)", x -> x.page(0, -1, 0), OUTSIDE));
        calls.add(new Call("page(0, 301, 0)", x -> x.page(0, 301, 0), OUTSIDE));
        for (int far : new int[] {-2, 100}) {
            calls.add(new Call("right(0, " + far + ", 18)", x -> x.right(0, far, 18), OUTSIDE));
            calls.add(new Call("right(0, 98, " + far + ")", x -> x.right(0, 98, far), OUTSIDE));
        }
        calls.add(new Call("right(0, 98, 20)", x -> x.right(0, 98, 20), OUTSIDE));
        for (int field : new int[] {-1, 5}) {
            calls.add(new Call("masked(" + field + ", true)", x -> x.masked(field, true), OUTSIDE));
            calls.add(new Call("masked(" + field + ", false)", x -> x.masked(field, false), OUTSIDE));
        }
        for (long far : new long[] {-1, 1000001, Long.MIN_VALUE, Long.MAX_VALUE}) {
            calls.add(new Call("bound(" + far + ")", x -> x.bound(far), OUTSIDE));
            calls.add(new Call("save(0, " + far + ")", x -> x.save(0, far), OUTSIDE));
            calls.add(new Call("tick(" + far + ")", x -> x.tick(far), OUTSIDE));
        }
        calls.add(new Call("save(0, 0)", x -> x.save(0, 0), OUTSIDE));
        calls.add(new Call("save(0, 1001)", x -> x.save(0, 1001), OUTSIDE));
        calls.add(new Call("tick back", x -> x.tick(time - 1), OUTSIDE));
        calls.add(new Call("tick too far", x -> x.tick(time + 1001), OUTSIDE));
        calls.add(new Call("saved(0)", x -> x.saved(0), UNKNOWN));
        calls.add(new Call("saved(21)", x -> x.saved(21), UNKNOWN));
        return calls;
    }

    private static List<Call> tellingAlone() {
        List<Call> calls = new ArrayList<>();
        calls.add(new Call("found(-1, 0)", x -> x.found(-1, 0), TraceQuestions.NONE));
        calls.add(new Call("found(0, 6)", x -> x.found(0, 6), TraceQuestions.NONE));
        calls.add(new Call("found(300, 0)", x -> x.found(300, 0), TraceQuestions.NONE));
        calls.add(new Call("page(30, 0, 9)", x -> x.page(30, 0, 9), TraceQuestions.NONE));
        calls.add(new Call("page(0, 0, 0)", x -> x.page(0, 0, 0), TraceQuestions.NONE));
        calls.add(new Call("the calls that tell", x -> {
            List<Long> all = new ArrayList<>();
            tell(x, all);
            return 0;
        }, 0));
        for (int c : new int[] {31, 127, -1, Integer.MIN_VALUE, Integer.MAX_VALUE}) {
            calls.add(new Call("sign(" + c + ")", x -> {
                x.sign(c);
                return 0;
            }, 0));
        }
        return calls;
    }

    /** A call on an object with a text leaves it like an object with the text that stands then. */
    private static void dueNoChange(State state, Call call, String text, String textThen) {
        TraceQuestions called = state.with(text);
        String name = call.name + " on " + state.name;
        check.due(name, call.call.applyAsLong(called), call.want);
        dueAlike(name, called, state.with(textThen), state.time);
    }

    private static void dueAlike(String name, TraceQuestions called, TraceQuestions other, long time) {
        long[] got = allOf(called, time);
        long[] want = allOf(other, time);
        for (int i = 0; i < want.length; i++) {
            check.due("answer " + i + " after " + name, got[i], want[i]);
        }
    }

    /** All that an object can be asked: what it tells, then what it does, call by call. */
    private static long[] allOf(TraceQuestions x, long time) {
        List<Long> all = new ArrayList<>();
        all.add(x.cost());
        tell(x, all);
        all.add((long) x.ask(0));
        all.add(x.cost());
        tell(x, all);
        all.add((long) x.bound(777777));
        for (int field = 0; field < 5; field++) {
            all.add((long) x.masked(field, false));
        }
        for (int who : new int[] {0, 1, 49}) {
            all.add((long) x.right(who, 98, 18));
        }
        all.add((long) x.row(1, 1, 1, 1, 1));
        all.add((long) x.ask(0));
        all.add((long) x.tick(time - 1));
        all.add((long) x.tick(time + 1001));
        all.add((long) x.tick(time));
        all.add((long) x.tick(time + 1));
        all.add((long) x.save(0, 5));
        all.add((long) x.tick(time + 1001));
        for (int question = 1; question <= 21; question++) {
            all.add((long) x.saved(question));
        }
        long[] answers = new long[all.size()];
        for (int i = 0; i < answers.length; i++) {
            answers[i] = all.get(i);
        }
        return answers;
    }

    private static void tell(TraceQuestions x, List<Long> all) {
        for (int who : new int[] {0, 1, 2, 48}) {
            all.add((long) x.scan(who));
        }
        for (int question : new int[] {1, 2, 19, 20}) {
            all.add((long) x.saved(question));
        }
        for (int what = 0; what <= 5; what++) {
            all.add(x.found(0, what));
            all.add(x.found(1, what));
        }
        all.add(x.found(295, 0));
        all.add(x.found(296, 0));
        all.add((long) x.page(0, 1, 0));
        all.add((long) x.page(0, 4, 1));
    }

    private static void noRoom() {
        dueNoChange(ROWS, new Call("row", x -> x.row(1, 1, 1, 1, 1), ROOM), "k=2", "k=2");
        dueNoChange(RIGHTS, new Call("right", x -> x.right(0, 98, 18), ROOM), "k=2", "k=2");
        dueNoChange(RIGHTS, new Call("any right", x -> x.right(49, -1, -1), ROOM), "k=2", "k=2");
        dueNoChange(RIGHTS, new Call("right held", x -> x.right(0, 50, 10), 2), "k=2", "k=2");
        dueNoChange(KEPT, new Call("save", x -> x.save(0, 5), ROOM), "k=2", "");
        dueNoChange(KEPT, new Call("save of nothing", x -> x.save(49, 1000), ROOM), "", "");
        dueNoChange(KEPT, new Call("save with a fault", x -> x.save(0, 5), -1), " ", "");
    }

    /** The cost is another one then, and nothing else. */
    private static void dear() {
        TraceQuestions x = SOME.with(THIRTEEN_TESTS);
        check.due("ask", x.ask(0), DEAR);
        check.due("cost", x.cost(), 56);
        TraceQuestions like = SOME.with("x");
        check.due("ask with a fault", like.ask(0), -1);
        check.due("cost", like.cost(), 12);
        // Both are asked one question more, so that their costs are alike.
        check.dueAsk(x, 0, THIRTEEN_TESTS, DEAR);
        check.dueAsk(like, 0, THIRTEEN_TESTS, DEAR);
        dueAlike("DEAR", x, like, SOME.time);
    }

    private static void whichComesFirst() {
        for (int field = 0; field < 5; field++) {
            int[] f = {1, 1, 1, 1, 1};
            f[field] = -1;
            check.due("row", ROWS.with("").row(f[0], f[1], f[2], f[3], f[4]), OUTSIDE);
        }
        TraceQuestions dear = SOME.with(THIRTEEN_TESTS + "+");
        check.due("UNKNOWN before a fault and DEAR", dear.ask(50), UNKNOWN);
        check.due("a fault before DEAR", dear.ask(0), -53);
        dear = SOME.with(THIRTEEN_TESTS);
        check.due("UNKNOWN before DEAR", dear.ask(-1), UNKNOWN);
        check.due("DEAR", dear.ask(0), DEAR);
        check.due("right: UNKNOWN before OUTSIDE and ROOM", RIGHTS.with("").right(50, 100, 20), UNKNOWN);
        check.due("right: UNKNOWN before ROOM", RIGHTS.with("").right(-1, 98, 18), UNKNOWN);
        check.due("right: OUTSIDE before ROOM", RIGHTS.with("").right(0, 100, 18), OUTSIDE);
        check.due("right: OUTSIDE before ROOM", RIGHTS.with("").right(0, 98, 20), OUTSIDE);
        TraceQuestions full = KEPT.with("i=7&");
        check.due("save: UNKNOWN before OUTSIDE, a fault and ROOM", full.save(50, 0), UNKNOWN);
        check.due("save: OUTSIDE before a fault and ROOM", full.save(0, 0), OUTSIDE);
        check.due("save: a fault before ROOM", full.save(0, 1), -5);
        check.due("save: ROOM", full.save(0, 1), ROOM);
        full = KEPT.with("i=7");
        check.due("save: UNKNOWN before ROOM", full.save(-1, 1), UNKNOWN);
        check.due("save: OUTSIDE before ROOM", full.save(0, 1001), OUTSIDE);
        check.due("save: ROOM", full.save(0, 1), ROOM);
        check.due("page: OUTSIDE before none answered", NEW.with("").page(-1, 0, 0), OUTSIDE);
        check.due("page: OUTSIDE before no such place", SOME.with("").page(9, 5, 0), OUTSIDE);
    }
}
