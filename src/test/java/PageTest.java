/** Promise 6. */
public final class PageTest {
    private static final Check check = new Check("PageTest");
    private static final int NONE = TraceQuestions.NONE;
    private static final int OUTSIDE = TraceQuestions.OUTSIDE;

    public static void main(String[] args) {
        outside();
        tenOnEach();
        firstRowsAlone();
        groups();
        rightsOfNow();
        masksAndBoundDoNotMatter();
        theLatestThatWasAnswered();
        check.end();
    }

    private static void outside() {
        TraceQuestions x = Check.fourRows();
        check.due("before any", x.page(0, 4, 0), NONE);
        check.due("before any, n -1", x.page(-1, 4, 0), OUTSIDE);
        check.due("before any, moment 5", x.page(0, 5, 0), OUTSIDE);
        check.due("before any, i 10", x.page(0, 4, 10), OUTSIDE);
        check.dueAsk(x, 0, "", 4);
        check.due("n -1", x.page(-1, 4, 0), OUTSIDE);
        check.due("n the least", x.page(Integer.MIN_VALUE, 4, 0), OUTSIDE);
        check.due("moment -1", x.page(0, -1, 0), OUTSIDE);
        check.due("moment 5", x.page(0, 5, 0), OUTSIDE);
        check.due("moment the least", x.page(0, Long.MIN_VALUE, 0), OUTSIDE);
        check.due("moment the greatest", x.page(0, Long.MAX_VALUE, 0), OUTSIDE);
        check.due("moment 4 as an int", x.page(0, (1L << 32) + 4, 0), OUTSIDE);
        check.due("i -1", x.page(0, 4, -1), OUTSIDE);
        check.due("i 10", x.page(0, 4, 10), OUTSIDE);
        check.due("i 9", x.page(0, 4, 9), NONE);
        check.due("i 3", x.page(0, 4, 3), 4);
        check.due("n 1", x.page(1, 4, 0), NONE);
        check.due("n the greatest", x.page(Integer.MAX_VALUE, 4, 9), NONE);
        // 10 times this number is 2 as an int
        check.due("n that is near 0 as an int", x.page(429496730, 4, 0), NONE);
    }

    private static void tenOnEach() {
        TraceQuestions x = Check.rows(25);
        check.dueAsk(x, 0, "-i", 25);
        for (int n = 0; n < 4; n++) {
            for (int i = 0; i < 10; i++) {
                int place = n * 10 + i;
                check.due("page(" + n + ", 25, " + i + ")", x.page(n, 25, i), place < 25 ? 25 - place : NONE);
            }
        }
    }

    private static void firstRowsAlone() {
        TraceQuestions x = Check.fourRows();
        check.dueAsk(x, 0, "!i=8-d", 3);
        check.due("of 4, 0", x.page(0, 4, 0), 4);
        check.due("of 4, 1", x.page(0, 4, 1), 1);
        check.due("of 4, 2", x.page(0, 4, 2), 2);
        check.due("of 4, 3", x.page(0, 4, 3), NONE);
        check.due("of 3, 0", x.page(0, 3, 0), 1);
        check.due("of 3, 1", x.page(0, 3, 1), 2);
        check.due("of 3, 2", x.page(0, 3, 2), NONE);
        check.due("of 1, 0", x.page(0, 1, 0), 1);
        check.due("of 1, 1", x.page(0, 1, 1), NONE);
        check.due("of 0, 0", x.page(0, 0, 0), NONE);
        x.row(7, 1, 1, 20000, 1);
        check.due("of 5, 0", x.page(0, 5, 0), 4);
        check.due("of 5, 1", x.page(0, 5, 1), 5);
        check.due("of 4, 1", x.page(0, 4, 1), 1);
        check.dueFound(x, 0, 4, 1, 2);
    }

    private static void groups() {
        TraceQuestions x = Check.fourRows();
        check.dueAsk(x, 0, "#d", 3);
        check.due("of 4, 0", x.page(0, 4, 0), 90);
        check.due("of 4, 1", x.page(0, 4, 1), 100);
        check.due("of 4, 2", x.page(0, 4, 2), 20000);
        check.due("of 4, 3", x.page(0, 4, 3), NONE);
        check.due("of 1, 0", x.page(0, 1, 0), 100);
        check.due("of 1, 1", x.page(0, 1, 1), NONE);
        check.dueFound(x, 0, 90, 100, 20000);
        check.dueFound(x, 1, 2, 1, 1);
    }

    private static void rightsOfNow() {
        TraceQuestions x = Check.fourRows();
        check.dueAsk(x, 2, "", 1);
        check.due("before", x.page(0, 4, 1), NONE);
        x.right(2, 5, 3);
        x.right(3, -1, -1);
        check.due("0", x.page(0, 4, 0), 2);
        check.due("1", x.page(0, 4, 1), 3);
        check.due("2", x.page(0, 4, 2), NONE);
        check.dueFound(x, 0, 3);
    }

    private static void masksAndBoundDoNotMatter() {
        TraceQuestions x = Check.fourRows();
        check.dueAsk(x, 0, "k=2&d<20000-i", 2);
        for (int field = 0; field < 5; field++) {
            x.masked(field, true);
        }
        x.bound(0);
        check.due("0", x.page(0, 4, 0), 3);
        check.due("1", x.page(0, 4, 1), 1);
        check.due("cost", x.cost(), 12);
    }

    private static void theLatestThatWasAnswered() {
        TraceQuestions x = Check.fourRows();
        check.dueAsk(x, 0, "i=8", 1);
        check.dueAsk(x, 0, "i", -2);
        check.due("after a fault", x.page(0, 4, 0), 3);
        x.bound(7);
        check.dueAsk(x, 0, "i=7", TraceQuestions.DEAR);
        check.due("after DEAR", x.page(0, 4, 0), 3);
        check.dueAsk(x, 0, "-i", 4);
        Check.write(x, "i=1");
        check.due("save", x.save(1, 1), 1);
        check.due("tick", x.tick(1), 1);
        check.due("after a kept one", x.page(0, 4, 0), 4);
        check.due("after a kept one", x.page(0, 4, 1), 3);
        check.dueAsk(x, 1, "", 3);
        check.due("by the other asker", x.page(0, 4, 2), 4);
    }
}
