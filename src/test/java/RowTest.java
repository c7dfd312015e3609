/** Promise 2. */
public final class RowTest {
    private static final Check check = new Check("RowTest");

    public static void main(String[] args) {
        fieldsAreKept();
        edges();
        outsideChangesNothing();
        threeHundred();
        check.end();
    }

    private static void fieldsAreKept() {
        TraceQuestions x = new TraceQuestions();
        x.right(0, -1, -1);
        check.due("row", x.row(11, 12, 13, 14, 15), 1);
        check.due("row", x.row(21, 2, 23, 24, 25), 2);
        check.dueAsk(x, 0, "", 2);
        check.dueFound(x, 0, 1, 2);
        check.dueFound(x, 1, 11, 21);
        check.dueFound(x, 2, 12, 2);
        check.dueFound(x, 3, 13, 23);
        check.dueFound(x, 4, 14, 24);
        check.dueFound(x, 5, 15, 25);
    }

    private static void edges() {
        TraceQuestions x = new TraceQuestions();
        check.due("the least", x.row(0, 0, 0, 0, 0), 1);
        check.due("the greatest", x.row(999, 19, 49, 20000, 99), 2);
        int out = TraceQuestions.OUTSIDE;
        check.due("item -1", x.row(-1, 0, 0, 0, 0), out);
        check.due("item 1000", x.row(1000, 0, 0, 0, 0), out);
        check.due("kind -1", x.row(0, -1, 0, 0, 0), out);
        check.due("kind 20", x.row(0, 20, 0, 0, 0), out);
        check.due("place -1", x.row(0, 0, -1, 0, 0), out);
        check.due("place 50", x.row(0, 0, 50, 0, 0), out);
        check.due("day -1", x.row(0, 0, 0, -1, 0), out);
        check.due("day 20001", x.row(0, 0, 0, 20001, 0), out);
        check.due("owner -1", x.row(0, 0, 0, 0, -1), out);
        check.due("owner 100", x.row(0, 0, 0, 0, 100), out);
        check.due("the least int", x.row(Integer.MIN_VALUE, 0, 0, 0, 0), out);
        check.due("the greatest int", x.row(0, Integer.MAX_VALUE, 0, 0, 0), out);
        check.due("the least day", x.row(0, 0, 0, Long.MIN_VALUE, 0), out);
        check.due("the greatest day", x.row(0, 0, 0, Long.MAX_VALUE, 0), out);
        check.due("a day that is 5 as an int", x.row(0, 0, 0, (1L << 32) + 5, 0), out);
        check.due("next", x.row(0, 0, 0, 0, 0), 3);
    }

    private static void outsideChangesNothing() {
        TraceQuestions x = Check.fourRows();
        x.row(1, 1, 1, 1, 100);
        check.due("scan", x.scan(0), 4);
        check.due("next", x.row(1, 1, 1, 1, 1), 5);
    }

    private static void threeHundred() {
        TraceQuestions x = new TraceQuestions();
        x.right(0, -1, -1);
        for (int i = 1; i <= 300; i++) {
            check.due("row " + i, x.row(i, 1, 1, 20000 - i, 1), i);
        }
        check.due("row 301", x.row(1, 1, 1, 1, 1), TraceQuestions.ROOM);
        check.due("row 301, outside", x.row(1, 20, 1, 1, 1), TraceQuestions.OUTSIDE);
        check.due("scan", x.scan(0), 300);
        check.dueAsk(x, 0, "+d", 300);
        check.due("first", x.found(0, 0), 300);
        check.due("last", x.found(299, 0), 1);
        check.due("behind the last", x.found(300, 0), TraceQuestions.NONE);
        check.due("last place", x.page(29, 300, 9), 1);
        check.due("behind the last page", x.page(30, 300, 0), TraceQuestions.NONE);
    }
}
