/** Promise 5. */
public final class FoundTest {
    private static final Check check = new Check("FoundTest");
    private static final int NONE = TraceQuestions.NONE;

    public static void main(String[] args) {
        whatIsNotThere();
        behindTheLast();
        maskedFields();
        allMasked();
        groupsMasked();
        asTheyWereThen();
        theLatestThatWasAnswered();
        rowsAfterGroups();
        othersChangeNothing();
        theClockChangesNothing();
        check.end();
    }

    private static void whatIsNotThere() {
        TraceQuestions x = Check.fourRows();
        check.due("before any", x.found(0, 0), NONE);
        check.dueAsk(x, 0, "", 4);
        check.due("i -1", x.found(-1, 0), NONE);
        check.due("i 4", x.found(4, 0), NONE);
        check.due("i the least", x.found(Integer.MIN_VALUE, 1), NONE);
        check.due("i the greatest", x.found(Integer.MAX_VALUE, 1), NONE);
        check.due("what -1", x.found(0, -1), NONE);
        check.due("what 6", x.found(0, 6), NONE);
        check.due("what 5", x.found(0, 5), 5);
        check.due("what the least", x.found(0, Integer.MIN_VALUE), NONE);
        check.due("what the greatest", x.found(0, Integer.MAX_VALUE), NONE);
        check.due("what 32", x.found(0, 33), NONE);
        check.dueAsk(x, 0, "#i", 3);
        check.due("a group's -1", x.found(0, -1), NONE);
        check.due("a group's 2", x.found(0, 2), NONE);
        check.due("a group's 5", x.found(0, 5), NONE);
        check.due("group -1", x.found(-1, 0), NONE);
        check.due("group 2", x.found(2, 1), 1);
        check.due("group 3", x.found(3, 0), NONE);
        check.due("group 3", x.found(3, 1), NONE);
    }

    /** Of none, one and several found: the last, the first behind it, and those that were found before. */
    private static void behindTheLast() {
        TraceQuestions x = Check.fourRows();
        String[] texts = {"", "i=7", "i=8", "i=1", "#i", "i=8#i", "i=1#i"};
        int[] counts = {4, 2, 1, 0, 3, 1, 0};
        for (int t = 0; t < texts.length; t++) {
            check.dueAsk(x, 0, texts[t], counts[t]);
            for (int i = -1; i <= 5; i++) {
                boolean there = i >= 0 && i < counts[t];
                for (int what = 0; what <= 1; what++) {
                    String call = "found(" + i + ", " + what + ") of " + texts[t];
                    check.due(call + " is there", x.found(i, what) != NONE ? 1 : 0, there ? 1 : 0);
                }
            }
        }
    }

    private static void maskedFields() {
        TraceQuestions x = Check.fourRows();
        check.dueAsk(x, 0, "d=100", 1);
        long[] fields = {7, 2, 3, 100, 5};
        for (int field = 0; field < 5; field++) {
            x.masked(field, true);
            for (int other = 0; other < 5; other++) {
                check.due("field " + other, x.found(0, other + 1), other == field ? NONE : fields[other]);
            }
            check.due("number", x.found(0, 0), 1);
            x.masked(field, false);
            check.due("field " + field, x.found(0, field + 1), fields[field]);
        }
    }

    private static void allMasked() {
        TraceQuestions x = Check.leastAndGreatest();
        check.dueAsk(x, 0, "", 2);
        for (int what = 1; what <= 5; what++) {
            check.dueFound(x, what, 0, Check.greatest(what - 1));
            x.masked(what - 1, true);
            check.dueFound(x, what, NONE, NONE);
        }
        check.dueFound(x, 0, 1, 2);
        check.dueAsk(x, 0, "", 2);
        check.dueFound(x, 0, 1, 2);
        check.dueFound(x, 4, NONE, NONE);
    }

    private static void groupsMasked() {
        TraceQuestions x = Check.fourRows();
        check.dueAsk(x, 0, "#i", 3);
        for (int field = 0; field < 5; field++) {
            x.masked(field, true);
            check.dueFound(x, 0, 7, 8, 9);
            check.dueFound(x, 1, 2, 1, 1);
        }
    }

    private static void asTheyWereThen() {
        TraceQuestions x = Check.fourRows();
        check.dueAsk(x, 3, "", 0);
        x.right(3, -1, -1);
        check.dueFound(x, 0);
        check.dueAsk(x, 0, "-d", 4);
        x.row(1, 1, 1, 20000, 1);
        check.dueFound(x, 0, 4, 1, 2, 3);
        check.dueFound(x, 4, 20000, 100, 90, 90);
        check.dueAsk(x, 0, "#d", 3);
        x.row(1, 1, 1, 90, 1);
        check.dueFound(x, 1, 2, 1, 2);
    }

    private static void theLatestThatWasAnswered() {
        TraceQuestions x = Check.fourRows();
        check.dueAsk(x, 0, "i=8", 1);
        check.dueAsk(x, 0, "i=", -3);
        check.dueFound(x, 0, 3);
        x.bound(7);
        check.dueAsk(x, 0, "i=7#i", TraceQuestions.DEAR);
        check.dueFound(x, 0, 3);
        check.dueFound(x, 1, 8);
        check.due("ask(50)", x.ask(50), TraceQuestions.UNKNOWN);
        check.dueFound(x, 0, 3);
        x.bound(8);
        check.dueAsk(x, 0, "i=7#i", 1);
        check.dueFound(x, 0, 7);
        check.dueFound(x, 1, 2);
        check.dueFound(x, 2);
    }

    private static void othersChangeNothing() {
        TraceQuestions x = Check.fourRows();
        Check.write(x, "k=2#d");
        check.due("save", x.save(0, 1), 1);
        check.dueAsk(x, 0, "i=7", 2);
        Check.write(x, "-i");
        check.due("save", x.save(0, 1), 2);
        check.dueFound(x, 0, 1, 2);
        check.due("tick", x.tick(1), 2);
        check.dueFound(x, 0, 1, 2);
        check.due("page", x.page(0, 1, 0), 1);
        check.dueFound(x, 0, 1, 2);
        check.due("scan", x.scan(2), 1);
        check.dueFound(x, 5, 5, 5);
    }

    private static void rowsAfterGroups() {
        TraceQuestions x = Check.fourRows();
        check.dueAsk(x, 0, "#i", 3);
        check.dueFound(x, 1, 2, 1, 1);
        check.due("a group's field", x.found(0, 2), NONE);
        check.dueAsk(x, 0, "", 4);
        check.dueFound(x, 1, 7, 7, 8, 9);
        check.dueFound(x, 2, 2, 3, 2, 19);
        check.dueAsk(x, 0, "#k", 3);
        check.due("a group's field", x.found(0, 2), NONE);
        check.dueFound(x, 1, 2, 1, 1);
    }

    /** What is found by a kept question: more, fewer, groups, of another asker. */
    private static void theClockChangesNothing() {
        for (String text : new String[] {"", "i=1", "#d", "-o"}) {
            for (int who = 0; who < 2; who++) {
                TraceQuestions x = Check.fourRows();
                check.dueSave(x, who, 1, text, 1);
                check.dueAsk(x, 0, "i=7-k", 2);
                check.dueTick(x, 3, 3);
                check.dueFound(x, 0, 2, 1);
                check.dueFound(x, 2, 3, 2);
                check.duePage(x, 4, 2, 1);
                check.due("cost", x.cost(), 8);
            }
        }
    }
}
