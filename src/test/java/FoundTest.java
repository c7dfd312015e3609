/** Promise 5. */
public final class FoundTest {
    private static final Check check = new Check("FoundTest");
    private static final int NONE = TraceQuestions.NONE;

    public static void main(String[] args) {
        whatIsNotThere();
        maskedFields();
        groupsMasked();
        asTheyWereThen();
        theLatestThatWasAnswered();
        othersChangeNothing();
        check.end();
    }

    private static void whatIsNotThere() {
        TraceQuestions x = Check.fourRows();
        check.due("before any", x.found(0, 0), NONE);
        check.dueAsk(x, 0, "", 4);
        check.due("i -1", x.found(-1, 0), NONE);
        check.due("i 4", x.found(4, 0), NONE);
        check.due("i the least", x.found(Integer.MIN_VALUE, 1), NONE);
        check.due("i the greatest", x.found(Integer.MAX_VALUE, 1), NONE);
        check.due("what -1", x.found(0, -1), NONE);
        check.due("what 6", x.found(0, 6), NONE);
        check.due("what 5", x.found(0, 5), 5);
        check.due("what the least", x.found(0, Integer.MIN_VALUE), NONE);
        check.due("what the greatest", x.found(0, Integer.MAX_VALUE), NONE);
        check.due("what 32", x.found(0, 33), NONE);
        check.dueAsk(x, 0, "#i", 3);
        check.due("a group's -1", x.found(0, -1), NONE);
        check.due("a group's 2", x.found(0, 2), NONE);
        check.due("a group's 5", x.found(0, 5), NONE);
        check.due("group -1", x.found(-1, 0), NONE);
        check.due("group 2", x.found(2, 1), 1);
        check.due("group 3", x.found(3, 0), NONE);
        check.due("group 3", x.found(3, 1), NONE);
    }

    private static void maskedFields() {
        TraceQuestions x = Check.fourRows();
        check.dueAsk(x, 0, "d=100", 1);
        long[] fields = {7, 2, 3, 100, 5};
        for (int field = 0; field < 5; field++) {
            x.masked(field, true);
            for (int other = 0; other < 5; other++) {
                check.due("field " + other, x.found(0, other + 1), other == field ? NONE : fields[other]);
            }
            check.due("number", x.found(0, 0), 1);
            x.masked(field, false);
            check.due("field " + field, x.found(0, field + 1), fields[field]);
        }
    }

    private static void groupsMasked() {
        TraceQuestions x = Check.fourRows();
        check.dueAsk(x, 0, "#i", 3);
        for (int field = 0; field < 5; field++) {
            x.masked(field, true);
            check.dueFound(x, 0, 7, 8, 9);
            check.dueFound(x, 1, 2, 1, 1);
        }
    }

    private static void asTheyWereThen() {
        TraceQuestions x = Check.fourRows();
        check.dueAsk(x, 3, "", 0);
        x.right(3, -1, -1);
        check.dueFound(x, 0);
        check.dueAsk(x, 0, "-d", 4);
        x.row(1, 1, 1, 20000, 1);
        check.dueFound(x, 0, 4, 1, 2, 3);
        check.dueFound(x, 4, 20000, 100, 90, 90);
        check.dueAsk(x, 0, "#d", 3);
        x.row(1, 1, 1, 90, 1);
        check.dueFound(x, 1, 2, 1, 2);
    }

    private static void theLatestThatWasAnswered() {
        TraceQuestions x = Check.fourRows();
        check.dueAsk(x, 0, "i=8", 1);
        check.dueAsk(x, 0, "i=", -3);
        check.dueFound(x, 0, 3);
        x.bound(7);
        check.dueAsk(x, 0, "i=7#i", TraceQuestions.DEAR);
        check.dueFound(x, 0, 3);
        check.dueFound(x, 1, 8);
        check.due("ask(50)", x.ask(50), TraceQuestions.UNKNOWN);
        check.dueFound(x, 0, 3);
        x.bound(8);
        check.dueAsk(x, 0, "i=7#i", 1);
        check.dueFound(x, 0, 7);
        check.dueFound(x, 1, 2);
        check.dueFound(x, 2);
    }

    private static void othersChangeNothing() {
        TraceQuestions x = Check.fourRows();
        Check.write(x, "k=2#d");
        check.due("save", x.save(0, 1), 1);
        check.dueAsk(x, 0, "i=7", 2);
        Check.write(x, "-i");
        check.due("save", x.save(0, 1), 2);
        check.dueFound(x, 0, 1, 2);
        check.due("tick", x.tick(1), 2);
        check.dueFound(x, 0, 1, 2);
        check.due("page", x.page(0, 1, 0), 1);
        check.dueFound(x, 0, 1, 2);
        check.due("scan", x.scan(2), 1);
        check.dueFound(x, 5, 5, 5);
    }
}
