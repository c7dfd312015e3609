/** Promise 8. What a mask does to texts stands in TextTest, to found rows in FoundTest. */
public final class MaskedTest {
    private static final Check check = new Check("MaskedTest");

    public static void main(String[] args) {
        onAndOff();
        outside();
        eachFieldForItself();
        fromNowOn();
        check.end();
    }

    private static void onAndOff() {
        for (int field = 0; field < 5; field++) {
            TraceQuestions x = new TraceQuestions();
            check.due("off at first", x.masked(field, false), 0);
            check.due("on", x.masked(field, true), 1);
            check.due("on again", x.masked(field, true), 0);
            check.due("off", x.masked(field, false), 1);
            check.due("off again", x.masked(field, false), 0);
            check.due("on once more", x.masked(field, true), 1);
        }
    }

    private static void outside() {
        TraceQuestions x = new TraceQuestions();
        int[] fields = {-1, 5, 32, 33, Integer.MIN_VALUE, Integer.MAX_VALUE};
        for (int field : fields) {
            check.due("masked(" + field + ", true)", x.masked(field, true), TraceQuestions.OUTSIDE);
            check.due("masked(" + field + ", false)", x.masked(field, false), TraceQuestions.OUTSIDE);
        }
        for (int field = 0; field < 5; field++) {
            check.due("masked(" + field + ", false)", x.masked(field, false), 0);
        }
    }

    private static void eachFieldForItself() {
        TraceQuestions x = Check.fourRows();
        x.masked(0, true);
        x.masked(3, true);
        check.due("k is not masked", x.masked(1, false), 0);
        check.dueAsk(x, 0, "k=2", 2);
        check.dueFound(x, 1, -1, -1);
        check.dueFound(x, 2, 2, 2);
        check.dueFound(x, 4, -1, -1);
        x.masked(0, false);
        check.dueFound(x, 1, 7, 8);
        check.dueFound(x, 4, -1, -1);
    }

    /** For texts that are read and fields that are told, from the call on and no longer than it is so. */
    private static void fromNowOn() {
        for (int field = 0; field < 5; field++) {
            TraceQuestions x = Check.leastAndGreatest();
            String text = Check.letter(field) + "=0";
            Check.write(x, text);
            check.due("on", x.masked(field, true), 1);
            check.due("written before", x.ask(0), -1);
            Check.write(x, text);
            check.due("off", x.masked(field, false), 1);
            check.due("written while it was", x.ask(0), 1);
            check.dueFound(x, field + 1, 0);
            check.due("on", x.masked(field, true), 1);
            check.dueFound(x, field + 1, TraceQuestions.NONE);
            check.due("off", x.masked(field, false), 1);
            check.dueFound(x, field + 1, 0);
        }
    }
}
