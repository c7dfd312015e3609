/** Promise 1, and the constants. */
public final class NewObjectTest {
    private static final Check check = new Check("NewObjectTest");

    public static void main(String[] args) {
        constants();
        nothingIsThere();
        nothingIsMasked();
        timeIsZero();
        objectsAreApart();
        check.end();
    }

    private static void constants() {
        check.due("NONE", TraceQuestions.NONE, -1);
        check.due("UNKNOWN", TraceQuestions.UNKNOWN, -1000001);
        check.due("OUTSIDE", TraceQuestions.OUTSIDE, -1000002);
        check.due("DEAR", TraceQuestions.DEAR, -1000003);
        check.due("ROOM", TraceQuestions.ROOM, -1000004);
    }

    private static void nothingIsThere() {
        TraceQuestions x = new TraceQuestions();
        check.due("page of a row", x.page(0, 1, 0), TraceQuestions.OUTSIDE);
        check.due("page", x.page(0, 0, 0), TraceQuestions.NONE);
        check.due("found", x.found(0, 0), TraceQuestions.NONE);
        check.due("cost", x.cost(), 0);
        check.due("saved(1)", x.saved(1), TraceQuestions.UNKNOWN);
        check.due("first row", x.row(1, 1, 1, 1, 1), 1);
        for (int who = 0; who < 50; who++) {
            check.due("scan(" + who + ")", x.scan(who), 0);
        }
        check.due("ask of no text", x.ask(0), 0);
        check.due("bound", x.bound(5), 100000);
    }

    private static void nothingIsMasked() {
        TraceQuestions x = new TraceQuestions();
        for (int field = 0; field < 5; field++) {
            check.due("masked(" + field + ", false)", x.masked(field, false), 0);
        }
    }

    private static void timeIsZero() {
        TraceQuestions x = new TraceQuestions();
        check.due("tick(1001)", x.tick(1001), TraceQuestions.OUTSIDE);
        check.due("tick(-1)", x.tick(-1), TraceQuestions.OUTSIDE);
        check.due("tick(0)", x.tick(0), 0);
        check.due("tick(1000)", x.tick(1000), 0);
    }

    private static void objectsAreApart() {
        TraceQuestions one = Check.fourRows();
        TraceQuestions other = new TraceQuestions();
        check.due("scan of another", other.scan(0), 0);
        check.due("right of another", other.right(0, -1, -1), 1);
        check.due("row of another", other.row(1, 1, 1, 1, 1), 1);
        check.due("scan of the one", one.scan(0), 4);
    }
}
