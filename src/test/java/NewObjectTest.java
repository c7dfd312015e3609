/** Promise 1, and the constants. */
public final class NewObjectTest {
    private static final Check check = new Check("NewObjectTest");
    private static final int NONE = TraceQuestions.NONE;
    private static final int UNKNOWN = TraceQuestions.UNKNOWN;
    private static final int OUTSIDE = TraceQuestions.OUTSIDE;

    public static void main(String[] args) {
        constants();
        noRows();
        noRights();
        nothingMasked();
        timeIsZero();
        noText();
        nothingAnswered();
        nothingKept();
        theFirstBound();
        objectsAreApart();
        check.end();
    }

    private static void constants() {
        check.due("NONE", TraceQuestions.NONE, -1);
        check.due("UNKNOWN", TraceQuestions.UNKNOWN, -1000001);
        check.due("OUTSIDE", TraceQuestions.OUTSIDE, -1000002);
        check.due("DEAR", TraceQuestions.DEAR, -1000003);
        check.due("ROOM", TraceQuestions.ROOM, -1000004);
    }

    private static void noRows() {
        TraceQuestions x = new TraceQuestions();
        check.due("page of a row", x.page(0, 1, 0), OUTSIDE);
        check.due("page of none", x.page(0, 0, 0), NONE);
        x.right(0, -1, -1);
        check.due("scan", x.scan(0), 0);
        check.dueAsk(x, 0, "", 0);
        check.dueAsk(x, 0, "i=0", 0);
        check.dueAsk(x, 0, "!i=0", 0);
        check.dueAsk(x, 0, "+i", 0);
        check.dueAsk(x, 0, "#i", 0);
        check.due("cost", x.cost(), 0);
        check.due("first row", x.row(1, 1, 1, 1, 1), 1);
        check.due("scan", x.scan(0), 1);
    }

    private static void noRights() {
        TraceQuestions x = new TraceQuestions();
        x.row(0, 0, 0, 0, 0);
        for (int who = 0; who < 50; who++) {
            check.due("scan(" + who + ")", x.scan(who), 0);
            check.due("ask(" + who + ")", x.ask(who), 0);
            check.due("the first right of " + who, x.right(who, 0, 0), 1);
            check.due("scan(" + who + ")", x.scan(who), 1);
        }
    }

    private static void nothingMasked() {
        TraceQuestions x = new TraceQuestions();
        for (int field = 0; field < 5; field++) {
            check.dueAsk(x, 0, Check.letter(field) + "=1+" + Check.letter(field), 0);
            check.due("masked(" + field + ", false)", x.masked(field, false), 0);
        }
    }

    private static void timeIsZero() {
        TraceQuestions x = new TraceQuestions();
        check.dueTick(x, 1001, OUTSIDE);
        check.dueTick(x, -1, OUTSIDE);
        check.dueTick(x, 0, 0);
        check.dueTick(x, 1000, 0);
        check.dueTick(x, 999, OUTSIDE);
        TraceQuestions y = new TraceQuestions();
        check.dueSave(y, 0, 1000, "", 1);
        check.dueTick(y, 999, 0);
        check.dueTick(y, 1000, 1);
    }

    private static void noText() {
        TraceQuestions x = new TraceQuestions();
        check.due("ask of nothing", x.ask(49), 0);
        TraceQuestions y = new TraceQuestions();
        check.due("save of nothing", y.save(49, 1), 1);
    }

    private static void nothingAnswered() {
        TraceQuestions x = new TraceQuestions();
        for (int what = -1; what <= 6; what++) {
            check.due("found(0, " + what + ")", x.found(0, what), NONE);
        }
        check.due("found(-1, 0)", x.found(-1, 0), NONE);
        check.due("found of the greatest", x.found(Integer.MAX_VALUE, 0), NONE);
        check.due("page", x.page(0, 0, 0), NONE);
        check.due("cost", x.cost(), 0);
    }

    private static void nothingKept() {
        TraceQuestions x = new TraceQuestions();
        check.dueSaved(x, 0, UNKNOWN);
        check.dueSaved(x, 1, UNKNOWN);
        check.dueSaved(x, 20, UNKNOWN);
        check.dueTick(x, 1000, 0);
        check.dueSave(x, 0, 1, "", 1);
        check.dueSaved(x, 1, NONE);
    }

    private static void theFirstBound() {
        TraceQuestions x = new TraceQuestions();
        check.due("bound", x.bound(5), 100000);
    }

    private static void objectsAreApart() {
        TraceQuestions one = Check.fourRows();
        one.masked(0, true);
        one.bound(7);
        one.tick(9);
        Check.write(one, "k=2");
        TraceQuestions other = new TraceQuestions();
        check.due("scan of another", other.scan(0), 0);
        check.due("right of another", other.right(0, -1, -1), 1);
        check.due("row of another", other.row(1, 1, 1, 1, 1), 1);
        check.due("mask of another", other.masked(0, false), 0);
        check.due("bound of another", other.bound(8), 100000);
        check.dueTick(other, 1, 0);
        check.due("text of another", other.ask(0), 1);
        check.due("scan of the one", one.scan(0), 4);
        check.due("bound of the one", one.bound(100), 7);
        check.due("text of the one", one.ask(0), 2);
    }
}
