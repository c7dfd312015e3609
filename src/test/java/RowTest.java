/** Promise 2. */
public final class RowTest {
    private static final Check check = new Check("RowTest");
    private static final int OUTSIDE = TraceQuestions.OUTSIDE;

    public static void main(String[] args) {
        fieldsAreKept();
        eachField();
        theDayIsALong();
        severalOutside();
        numbersGoOn();
        threeHundred();
        check.end();
    }

    /** A row of zeros, but for one field. */
    private static int rowWith(TraceQuestions x, int field, int value) {
        int[] f = new int[5];
        f[field] = value;
        return x.row(f[0], f[1], f[2], f[3], f[4]);
    }

    private static void fieldsAreKept() {
        TraceQuestions x = new TraceQuestions();
        x.right(0, -1, -1);
        check.due("row", x.row(11, 12, 13, 14, 15), 1);
        check.due("row", x.row(21, 2, 23, 24, 25), 2);
        check.dueAsk(x, 0, "", 2);
        check.dueFound(x, 0, 1, 2);
        check.dueFound(x, 1, 11, 21);
        check.dueFound(x, 2, 12, 2);
        check.dueFound(x, 3, 13, 23);
        check.dueFound(x, 4, 14, 24);
        check.dueFound(x, 5, 15, 25);
    }

    private static void eachField() {
        for (int field = 0; field < 5; field++) {
            TraceQuestions x = new TraceQuestions();
            x.right(0, -1, -1);
            int greatest = Check.greatest(field);
            String of = " of field " + field;
            check.due("the first below" + of, rowWith(x, field, -1), OUTSIDE);
            check.due("the least" + of, rowWith(x, field, 0), 1);
            check.due("the second least" + of, rowWith(x, field, 1), 2);
            check.due("the second greatest" + of, rowWith(x, field, greatest - 1), 3);
            check.due("the greatest" + of, rowWith(x, field, greatest), 4);
            check.due("the first above" + of, rowWith(x, field, greatest + 1), OUTSIDE);
            check.due("the least int" + of, rowWith(x, field, Integer.MIN_VALUE), OUTSIDE);
            check.due("the greatest int" + of, rowWith(x, field, Integer.MAX_VALUE), OUTSIDE);
            check.dueAsk(x, 0, "", 4);
            check.dueFound(x, field + 1, 0, 1, greatest - 1, greatest);
        }
    }

    private static void theDayIsALong() {
        TraceQuestions x = new TraceQuestions();
        check.due("the least long", x.row(0, 0, 0, Long.MIN_VALUE, 0), OUTSIDE);
        check.due("the greatest long", x.row(0, 0, 0, Long.MAX_VALUE, 0), OUTSIDE);
        check.due("a day that is 0 as an int", x.row(0, 0, 0, 1L << 32, 0), OUTSIDE);
        check.due("a day that is 20000 as an int", x.row(0, 0, 0, (1L << 32) + 20000, 0), OUTSIDE);
        check.due("below 0 that is 5 as an int", x.row(0, 0, 0, Long.MIN_VALUE + 5, 0), OUTSIDE);
        check.due("first", x.row(0, 0, 0, 0, 0), 1);
    }

    private static void severalOutside() {
        TraceQuestions x = new TraceQuestions();
        check.due("all below", x.row(-1, -1, -1, -1, -1), OUTSIDE);
        check.due("all above", x.row(1000, 20, 50, 20001, 100), OUTSIDE);
        check.due("the first and the last", x.row(-1, 0, 0, 0, 100), OUTSIDE);
        check.due("all the greatest", x.row(999, 19, 49, 20000, 99), 1);
        check.due("all the least", x.row(0, 0, 0, 0, 0), 2);
    }

    private static void numbersGoOn() {
        TraceQuestions x = Check.fourRows();
        check.due("outside", x.row(1, 1, 1, 1, 100), OUTSIDE);
        check.due("scan", x.scan(0), 4);
        check.due("next", x.row(1, 1, 1, 1, 1), 5);
        check.due("one like it", x.row(1, 1, 1, 1, 1), 6);
        check.due("scan", x.scan(0), 6);
    }

    private static void threeHundred() {
        TraceQuestions x = new TraceQuestions();
        x.right(0, -1, -1);
        for (int i = 1; i <= 300; i++) {
            check.due("row " + i, x.row(i, 1, 1, 20000 - i, 1), i);
        }
        check.due("row 301", x.row(1, 1, 1, 1, 1), TraceQuestions.ROOM);
        check.due("row 301, outside", x.row(1, 20, 1, 1, 1), OUTSIDE);
        check.due("row 301 again", x.row(0, 0, 0, 0, 0), TraceQuestions.ROOM);
        check.due("scan", x.scan(0), 300);
        check.dueAsk(x, 0, "+d", 300);
        check.due("first", x.found(0, 0), 300);
        check.due("last", x.found(299, 0), 1);
        check.due("behind the last", x.found(300, 0), TraceQuestions.NONE);
        check.due("last place", x.page(29, 300, 9), 1);
        check.due("behind the last page", x.page(30, 300, 0), TraceQuestions.NONE);
        check.due("of one row more", x.page(0, 301, 0), OUTSIDE);
    }
}
