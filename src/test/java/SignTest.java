/** Promise 3: which characters are taken, and how many. */
public final class SignTest {
    private static final Check check = new Check("SignTest");
    private static final int[] UNTAKEN = {31, 127, 0, 1, 10, -1, 128, 255, 256, 256 + 'i', 0x10000 + 'i', -'i',
        Integer.MIN_VALUE, Integer.MIN_VALUE + 'i', Integer.MAX_VALUE};
    // 198 and 199 signs without a fault; the latter goes on with figures. Both find no row of item 0 alone.
    private static final String FINE_198 = Check.times(38, "!i=0|") + "!!!!!i=0";
    private static final String FINE_199 = Check.times(32, "(i=9)|") + "!!!!i=1";

    public static void main(String[] args) {
        signsThatAreNotTaken();
        signsThatAreTaken();
        untakenNeedNoPlace();
        aroundTwoHundred();
        theLastFigure();
        fullThroughRefusals();
        twoHundredAgain();
        check.end();
    }

    private static void signsThatAreNotTaken() {
        for (int c : UNTAKEN) {
            TraceQuestions x = Check.rows(2);
            x.sign(c);
            check.due("ask after sign(" + c + ")", x.ask(0), 2);
            x.sign('i');
            x.sign(c);
            check.dueAsk(x, 0, "=1", 1);
        }
    }

    private static void signsThatAreTaken() {
        for (int c = 32; c <= 126; c++) {
            TraceQuestions x = Check.rows(1);
            Check.write(x, "i=0");
            x.sign(c);
            boolean figure = c >= '0' && c <= '9';
            boolean more = "&|#+-".indexOf(c) >= 0;
            if (!figure) {
                check.due("ask of i=0 and sign(" + c + ")", x.ask(0), more ? -5 : -4);
            } else {
                check.due("ask of i=0 and sign(" + c + ")", x.ask(0), c == '0' ? 1 : 0);
            }
        }
    }

    private static void untakenNeedNoPlace() {
        TraceQuestions x = Check.rows(2);
        for (int i = 0; i < 201; i++) {
            x.sign(i % 2 == 0 ? 31 : 127);
        }
        check.dueAsk(x, 0, "i=1", 1);
    }

    private static void dueAskOfNew(String text, long want) {
        check.dueAsk(Check.rows(1), 0, text, want);
    }

    private static void aroundTwoHundred() {
        check.due("length", FINE_198.length(), 198);
        dueAskOfNew(FINE_198, 0);
        dueAskOfNew(FINE_198 + " ", -1 - 198);
        dueAskOfNew(FINE_198 + "#", -1 - 199);
        dueAskOfNew(FINE_198 + "#i", 0);
        dueAskOfNew(FINE_198 + "#x", -1 - 199);
        dueAskOfNew(FINE_198 + "#ii", 0);
        dueAskOfNew(FINE_198 + "#i and more", 0);
        // 200 signs, the text ends too early
        dueAskOfNew("!" + FINE_198 + "#", -1 - 200);
        dueAskOfNew("!" + FINE_198 + "#i", -1 - 200);
        dueAskOfNew("!!" + FINE_198 + "#i", 0);
        dueAskOfNew(Check.times(200, " "), -1);
    }

    private static void theLastFigure() {
        check.due("length", FINE_199.length(), 199);
        String[] ends = {"", "1", "11", "111"};
        long[] rows = {1, 2, 2, 2};
        for (int e = 0; e < ends.length; e++) {
            TraceQuestions x = new TraceQuestions();
            x.right(0, -1, -1);
            x.row(1, 0, 0, 0, 0);
            x.row(11, 0, 0, 0, 0);
            x.row(111, 0, 0, 0, 0);
            check.dueAsk(x, 0, FINE_199 + ends[e], 1);
            check.dueFound(x, 0, rows[e]);
        }
    }

    private static void fullThroughRefusals() {
        TraceQuestions x = Check.rows(1);
        Check.write(x, FINE_198 + "#i");
        check.due("ask of none such", x.ask(50), TraceQuestions.UNKNOWN);
        check.due("save of none such", x.save(-1, 1), TraceQuestions.UNKNOWN);
        check.due("save every 0", x.save(0, 0), TraceQuestions.OUTSIDE);
        check.dueAsk(x, 0, "x", 0);
    }

    private static void twoHundredAgain() {
        TraceQuestions x = Check.rows(1);
        check.dueAsk(x, 0, FINE_198 + "#ix", 0);
        check.dueSave(x, 0, 1, FINE_198 + "#ix", 1);
        check.dueTick(x, 1, 1);
        check.dueSaved(x, 1, 0);
        TraceQuestions y = Check.rows(1);
        check.dueSave(y, 0, 1, FINE_198 + "##", -1 - 199);
        check.dueAsk(y, 0, "!" + FINE_198 + "#", -1 - 200);
        check.dueAsk(y, 0, "", 1);
    }
}
