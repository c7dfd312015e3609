/** Promises 9 and 10. */
public final class CostTest {
    private static final Check check = new Check("CostTest");
    private static final int DEAR = TraceQuestions.DEAR;

    public static void main(String[] args) {
        testsAndOneTimesRows();
        latestWithoutFault();
        askedByAskAlone();
        bounds();
        boundOutside();
        theBoundItself();
        eachCostAndItsBound();
        theDearest();
        check.end();
    }

    private static void dueCost(TraceQuestions x, String text, long want) {
        Check.write(x, text);
        x.ask(0);
        check.due("cost of " + text, x.cost(), want);
    }

    private static void testsAndOneTimesRows() {
        TraceQuestions x = Check.fourRows();
        check.due("before any", x.cost(), 0);
        dueCost(x, "", 4);
        dueCost(x, "+i", 4);
        dueCost(x, "#i", 4);
        dueCost(x, "i=1", 8);
        dueCost(x, "!!(!(i=1))", 8);
        dueCost(x, "i=1&k=1|p=1+d", 16);
        dueCost(x, Check.times(39, "i=1|") + "i=1", 164);
        Check.write(x, "i=1");
        x.ask(3);
        check.due("rows that are not seen count", x.cost(), 8);
        TraceQuestions y = Check.rows(300);
        dueCost(y, Check.times(39, "i=1|") + "i=1-i", 12300);
        TraceQuestions z = new TraceQuestions();
        dueCost(z, "i=1", 0);
    }

    /** Of none, one and several rows, and of 0 to 40 tests: the bound that is as much, and one less. */
    private static void eachCostAndItsBound() {
        for (int rows = 0; rows <= 3; rows++) {
            for (int tests : new int[] {0, 1, 2, 39, 40}) {
                String text = tests == 0 ? "" : Check.times(tests - 1, "i>9|") + "i=0";
                int cost = rows * (tests + 1);
                TraceQuestions x = Check.rows(rows);
                check.due("bound(" + cost + ")", x.bound(cost), 100000);
                check.dueAsk(x, 0, text, tests == 0 ? rows : Math.min(rows, 1));
                check.due("cost of " + text, x.cost(), cost);
                if (cost > 0) {
                    x.bound(cost - 1);
                    check.dueAsk(x, 0, text, DEAR);
                    check.due("cost of " + text, x.cost(), cost);
                }
            }
        }
    }

    /** The dearest question of all is not dear at first. */
    private static void theDearest() {
        TraceQuestions x = Check.rows(300);
        check.dueAsk(x, 0, Check.times(39, "i=1|") + "i=1", 1);
        check.due("its cost", x.cost(), 12300);
        TraceQuestions y = Check.rows(300);
        check.due("bound", y.bound(12299), 100000);
        check.dueAsk(y, 0, Check.times(39, "i=1|") + "i=1", DEAR);
        check.due("its cost", y.cost(), 12300);
        check.due("bound", y.bound(1000000), 12299);
    }

    private static void latestWithoutFault() {
        TraceQuestions x = Check.fourRows();
        dueCost(x, "i=1", 8);
        dueCost(x, "i=1&k=1|", 8);
        Check.write(x, "i=1&k=1");
        x.ask(50);
        check.due("after UNKNOWN", x.cost(), 8);
        x.bound(11);
        check.due("ask", x.ask(0), DEAR);
        check.due("after DEAR", x.cost(), 12);
        x.row(1, 1, 1, 1, 1);
        check.due("after a row more", x.cost(), 12);
        dueCost(x, "", 5);
    }

    private static void askedByAskAlone() {
        TraceQuestions x = Check.fourRows();
        Check.write(x, "i=1&k=1");
        check.due("save", x.save(0, 1), 1);
        check.due("after save", x.cost(), 0);
        check.due("tick", x.tick(1), 1);
        check.due("after tick", x.cost(), 0);
        dueCost(x, "i=1", 8);
        check.due("page", x.page(0, 1, 0), -1);
        check.due("after page", x.cost(), 8);
        check.due("tick", x.tick(2), 1);
        check.due("after tick", x.cost(), 8);
    }

    private static void bounds() {
        TraceQuestions x = new TraceQuestions();
        check.due("the first", x.bound(0), 100000);
        check.due("after 0", x.bound(1000000), 0);
        check.due("after the greatest", x.bound(17), 1000000);
        check.due("the same", x.bound(17), 17);
        check.due("after the same", x.bound(5), 17);
    }

    private static void boundOutside() {
        TraceQuestions x = new TraceQuestions();
        long[] steps = {-1, 1000001, Long.MIN_VALUE, Long.MAX_VALUE, 1L << 32, (1L << 32) + 5};
        for (long s : steps) {
            check.due("bound(" + s + ")", x.bound(s), TraceQuestions.OUTSIDE);
        }
        check.due("the first", x.bound(3), 100000);
    }

    private static void theBoundItself() {
        TraceQuestions x = Check.fourRows();
        x.bound(8);
        check.dueAsk(x, 0, "i=7", 2);
        x.bound(7);
        check.dueAsk(x, 0, "i=7", DEAR);
        check.dueAsk(x, 0, "", 4);
        x.bound(0);
        check.dueAsk(x, 0, "", DEAR);
        check.dueAsk(x, 3, "", DEAR);
        x.bound(12);
        check.dueAsk(x, 0, "i=7&k=2", 1);
        TraceQuestions y = new TraceQuestions();
        y.bound(0);
        check.dueAsk(y, 0, "i=7", 0);
    }
}
