/** Promise 6. */
public final class PageTest {
    private static final Check check = new Check("PageTest");
    private static final int NONE = TraceQuestions.NONE;
    private static final int OUTSIDE = TraceQuestions.OUTSIDE;

    public static void main(String[] args) {
        noQuestionAnswered();
        outside();
        outsideWithoutRows();
        tenOnEach();
        firstRowsAlone();
        eachMoment();
        groups();
        groupsOfAMoment();
        rightsOfNow();
        masksAndBoundDoNotMatter();
        foundThenAndNow();
        theLatestThatWasAnswered();
        check.end();
    }

    private static void noQuestionAnswered() {
        TraceQuestions x = Check.fourRows();
        check.duePage(x, 4);
        check.dueAsk(x, 0, "i=", -3);
        check.duePage(x, 4);
        x.bound(3);
        check.dueAsk(x, 0, "", TraceQuestions.DEAR);
        check.duePage(x, 4);
        check.dueAsk(x, 50, "", TraceQuestions.UNKNOWN);
        check.dueSave(x, 0, 1, "", 1);
        check.dueTick(x, 1, 1);
        check.duePage(x, 4);
        x.bound(4);
        check.dueTick(x, 2, 1);
        check.duePage(x, 4);
        check.dueAsk(x, 0, "", 4);
        check.duePage(x, 4, 1, 2, 3, 4);
    }

    private static void outsideWithoutRows() {
        TraceQuestions x = Check.rows(0);
        check.dueAsk(x, 0, "", 0);
        check.duePage(x, 0);
        check.due("moment -1", x.page(0, -1, 0), OUTSIDE);
        check.due("moment 1", x.page(0, 1, 0), OUTSIDE);
        x.row(1, 1, 1, 1, 1);
        check.duePage(x, 0);
        check.duePage(x, 1, 1);
        check.due("moment 2", x.page(0, 2, 0), OUTSIDE);
    }

    private static void outside() {
        TraceQuestions x = Check.fourRows();
        check.due("before any", x.page(0, 4, 0), NONE);
        check.due("before any, n -1", x.page(-1, 4, 0), OUTSIDE);
        check.due("before any, moment 5", x.page(0, 5, 0), OUTSIDE);
        check.due("before any, i 10", x.page(0, 4, 10), OUTSIDE);
        check.dueAsk(x, 0, "", 4);
        check.due("n -1", x.page(-1, 4, 0), OUTSIDE);
        check.due("n the least", x.page(Integer.MIN_VALUE, 4, 0), OUTSIDE);
        check.due("moment -1", x.page(0, -1, 0), OUTSIDE);
        check.due("moment 5", x.page(0, 5, 0), OUTSIDE);
        check.due("moment the least", x.page(0, Long.MIN_VALUE, 0), OUTSIDE);
        check.due("moment the greatest", x.page(0, Long.MAX_VALUE, 0), OUTSIDE);
        check.due("moment 4 as an int", x.page(0, (1L << 32) + 4, 0), OUTSIDE);
        check.due("moment 0", x.page(0, 0, 0), NONE);
        check.due("moment 4", x.page(0, 4, 0), 1);
        check.due("i -1", x.page(0, 4, -1), OUTSIDE);
        check.due("i the least", x.page(0, 4, Integer.MIN_VALUE), OUTSIDE);
        check.due("i the greatest", x.page(0, 4, Integer.MAX_VALUE), OUTSIDE);
        check.due("place 10 as i", x.page(1, 4, -10), OUTSIDE);
        check.due("i 10", x.page(0, 4, 10), OUTSIDE);
        check.due("i 9", x.page(0, 4, 9), NONE);
        check.due("i 3", x.page(0, 4, 3), 4);
        check.due("n 1", x.page(1, 4, 0), NONE);
        check.due("n the greatest", x.page(Integer.MAX_VALUE, 4, 9), NONE);
        // 10 times this number is 2 as an int
        check.due("n that is near 0 as an int", x.page(429496730, 4, 0), NONE);
    }

    private static void tenOnEach() {
        TraceQuestions x = Check.rows(25);
        check.dueAsk(x, 0, "-i", 25);
        for (int n = 0; n < 4; n++) {
            for (int i = 0; i < 10; i++) {
                int place = n * 10 + i;
                check.due("page(" + n + ", 25, " + i + ")", x.page(n, 25, i), place < 25 ? 25 - place : NONE);
            }
        }
    }

    private static void firstRowsAlone() {
        TraceQuestions x = Check.fourRows();
        check.dueAsk(x, 0, "!i=8-d", 3);
        check.due("of 4, 0", x.page(0, 4, 0), 4);
        check.due("of 4, 1", x.page(0, 4, 1), 1);
        check.due("of 4, 2", x.page(0, 4, 2), 2);
        check.due("of 4, 3", x.page(0, 4, 3), NONE);
        check.due("of 3, 0", x.page(0, 3, 0), 1);
        check.due("of 3, 1", x.page(0, 3, 1), 2);
        check.due("of 3, 2", x.page(0, 3, 2), NONE);
        check.due("of 1, 0", x.page(0, 1, 0), 1);
        check.due("of 1, 1", x.page(0, 1, 1), NONE);
        check.due("of 0, 0", x.page(0, 0, 0), NONE);
        x.row(7, 1, 1, 20000, 1);
        check.due("of 5, 0", x.page(0, 5, 0), 4);
        check.due("of 5, 1", x.page(0, 5, 1), 5);
        check.due("of 4, 1", x.page(0, 4, 1), 1);
        check.dueFound(x, 0, 4, 1, 2);
    }

    /** Of 0, 1, .. rows as many are found, and in their order. */
    private static void eachMoment() {
        TraceQuestions x = Check.rows(9);
        check.dueAsk(x, 0, "!i=4-i", 8);
        for (int moment = 0; moment <= 9; moment++) {
            int place = 0;
            for (int row = moment; row >= 1; row--) {
                if (row != 5) {
                    check.due("of " + moment, x.page(0, moment, place), row);
                    place++;
                }
            }
            check.due("of " + moment + " no more", x.page(0, moment, place), NONE);
        }
    }

    private static void groups() {
        TraceQuestions x = Check.fourRows();
        check.dueAsk(x, 0, "#d", 3);
        check.due("of 4, 0", x.page(0, 4, 0), 90);
        check.due("of 4, 1", x.page(0, 4, 1), 100);
        check.due("of 4, 2", x.page(0, 4, 2), 20000);
        check.due("of 4, 3", x.page(0, 4, 3), NONE);
        check.due("of 1, 0", x.page(0, 1, 0), 100);
        check.due("of 1, 1", x.page(0, 1, 1), NONE);
        check.dueFound(x, 0, 90, 100, 20000);
        check.dueFound(x, 1, 2, 1, 1);
    }

    private static void groupsOfAMoment() {
        TraceQuestions x = Check.rows(25);
        x.row(0, 1, 1, 1, 1);
        check.dueAsk(x, 0, "#i", 25);
        check.due("the 10th", x.page(0, 26, 9), 9);
        check.due("the 11th", x.page(1, 26, 0), 10);
        check.due("the 25th", x.page(2, 26, 4), 24);
        check.due("the 26th", x.page(2, 26, 5), NONE);
        check.due("the 10th of 10", x.page(0, 10, 9), 9);
        check.due("the 10th of 9", x.page(0, 9, 9), NONE);
        check.due("the first of 1", x.page(0, 1, 0), 0);
    }

    private static void rightsOfNow() {
        TraceQuestions x = Check.fourRows();
        check.dueAsk(x, 2, "", 1);
        check.due("before", x.page(0, 4, 1), NONE);
        x.right(2, 5, 3);
        x.right(3, -1, -1);
        check.due("0", x.page(0, 4, 0), 2);
        check.due("1", x.page(0, 4, 1), 3);
        check.due("2", x.page(0, 4, 2), NONE);
        check.dueFound(x, 0, 3);
    }

    private static void masksAndBoundDoNotMatter() {
        TraceQuestions x = Check.fourRows();
        check.dueAsk(x, 0, "k=2&d<20000-i", 2);
        for (int field = 0; field < 5; field++) {
            x.masked(field, true);
        }
        x.bound(0);
        check.due("0", x.page(0, 4, 0), 3);
        check.due("1", x.page(0, 4, 1), 1);
        check.due("cost", x.cost(), 12);
    }

    /** Rows that came, and rights: found() tells of then, page() of now. */
    private static void foundThenAndNow() {
        TraceQuestions x = Check.fourRows();
        check.dueAsk(x, 3, "-d", 0);
        check.duePage(x, 4);
        x.right(3, -1, 2);
        check.dueFound(x, 0);
        check.duePage(x, 4, 1, 3);
        x.row(1, 2, 1, 20000, 1);
        check.dueFound(x, 0);
        check.duePage(x, 4, 1, 3);
        check.duePage(x, 5, 5, 1, 3);
    }

    private static void theLatestThatWasAnswered() {
        TraceQuestions x = Check.fourRows();
        check.dueAsk(x, 0, "i=8", 1);
        check.dueAsk(x, 0, "i", -2);
        check.due("after a fault", x.page(0, 4, 0), 3);
        x.bound(7);
        check.dueAsk(x, 0, "i=7", TraceQuestions.DEAR);
        check.due("after DEAR", x.page(0, 4, 0), 3);
        check.dueAsk(x, 0, "-i", 4);
        Check.write(x, "i=1");
        check.due("save", x.save(1, 1), 1);
        check.due("tick", x.tick(1), 1);
        check.due("after a kept one", x.page(0, 4, 0), 4);
        check.due("after a kept one", x.page(0, 4, 1), 3);
        check.dueAsk(x, 1, "", 3);
        check.due("by the other asker", x.page(0, 4, 2), 4);
    }
}
