/** Promise 11. */
public final class SaveTest {
    private static final Check check = new Check("SaveTest");
    private static final int NONE = TraceQuestions.NONE;
    private static final int UNKNOWN = TraceQuestions.UNKNOWN;
    private static final int OUTSIDE = TraceQuestions.OUTSIDE;
    private static final int ROOM = TraceQuestions.ROOM;

    public static void main(String[] args) {
        who();
        every();
        numbersGoOn();
        faults();
        masksOfThen();
        theBoundDoesNotMatter();
        firstWhenSoManyAreOver();
        twentyAreKept();
        twentyAndAFault();
        aTextOfItsOwn();
        changesNothingElse();
        check.end();
    }

    private static void who() {
        TraceQuestions x = Check.fourRows();
        check.due("who -1", x.save(-1, 1), UNKNOWN);
        check.due("who 50", x.save(50, 1), UNKNOWN);
        check.due("who the least", x.save(Integer.MIN_VALUE, 1), UNKNOWN);
        check.due("who the greatest", x.save(Integer.MAX_VALUE, 1), UNKNOWN);
        check.due("who 50, every 0", x.save(50, 0), UNKNOWN);
        check.due("who 0", x.save(0, 1), 1);
        check.due("who 49", x.save(49, 1), 2);
        check.dueTick(x, 1, 2);
        check.dueSaved(x, 1, 4);
        check.dueSaved(x, 2, 0);
    }

    private static void every() {
        TraceQuestions x = Check.fourRows();
        check.due("every 0", x.save(0, 0), OUTSIDE);
        check.due("every -1", x.save(0, -1), OUTSIDE);
        check.due("every 1001", x.save(0, 1001), OUTSIDE);
        check.due("every the least", x.save(0, Long.MIN_VALUE), OUTSIDE);
        check.due("every the greatest", x.save(0, Long.MAX_VALUE), OUTSIDE);
        check.due("every 0 as an int", x.save(0, 1L << 32), OUTSIDE);
        check.due("every 1 as an int", x.save(0, (1L << 32) + 1), OUTSIDE);
        check.due("nothing was kept", x.saved(1), UNKNOWN);
        check.dueTick(x, 1000, 0);
        check.due("every 1000", x.save(0, 1000), 1);
        check.due("every 1", x.save(0, 1), 2);
        check.dueTick(x, 1999, 999);
        check.dueTick(x, 2000, 2);
    }

    private static void numbersGoOn() {
        TraceQuestions x = Check.fourRows();
        check.dueSave(x, 0, 1, "i=7", 1);
        check.dueSave(x, 0, 1, "i=", -3);
        check.due("UNKNOWN", x.save(50, 1), UNKNOWN);
        check.due("OUTSIDE", x.save(0, 1001), OUTSIDE);
        check.dueSave(x, 0, 1, "i=7", 2);
        check.dueSaved(x, 3, UNKNOWN);
        check.dueSave(x, 1, 1, "", 3);
        check.dueSaved(x, 3, NONE);
    }

    private static void faults() {
        TraceQuestions x = Check.fourRows();
        Check.write(x, "i=");
        check.due("UNKNOWN before a fault", x.save(50, 1), UNKNOWN);
        check.due("OUTSIDE before a fault", x.save(0, 0), OUTSIDE);
        check.due("the fault", x.save(0, 1), -3);
        check.due("the text is empty", x.ask(0), 4);
        check.dueSave(x, 0, 1, "x", -1);
        check.dueSave(x, 0, 1, "i=7#", -5);
        check.dueSaved(x, 1, UNKNOWN);
        check.dueTick(x, 1000, 0);
        check.dueSave(x, 0, 1, "i=7", 1);
    }

    private static void masksOfThen() {
        TraceQuestions x = Check.fourRows();
        x.masked(0, true);
        check.dueSave(x, 0, 1, "k=2&i=7", -5);
        check.dueSave(x, 0, 1, "k=2+i", -5);
        check.dueSave(x, 0, 1, "k=2", 1);
        x.masked(1, true);
        check.dueSaved(x, 1, NONE);
        check.dueSave(x, 0, 1, "k=2", -1);
        x.masked(1, false);
        check.dueTick(x, 1, 1);
        check.dueSaved(x, 1, 2);
    }

    private static void theBoundDoesNotMatter() {
        TraceQuestions x = Check.fourRows();
        x.bound(0);
        check.dueSave(x, 0, 1, "i=7", 1);
        check.dueSave(x, 0, 1, "", 2);
        check.due("cost", x.cost(), 0);
        x.bound(8);
        check.dueTick(x, 1, 2);
        check.dueSaved(x, 1, 2);
        check.dueSaved(x, 2, 4);
    }

    private static void firstWhenSoManyAreOver() {
        for (long every : new long[] {1, 2, 999, 1000}) {
            for (long since : new long[] {0, 1, 7, 1000}) {
                TraceQuestions x = Check.fourRows();
                check.dueTick(x, since, 0);
                check.dueSave(x, 0, every, "i=7", 1);
                check.dueSaved(x, 1, NONE);
                check.dueTick(x, since, 0);
                check.dueTick(x, since + every - 1, 0);
                check.dueSaved(x, 1, NONE);
                check.dueTick(x, since + every, 1);
                check.dueSaved(x, 1, 2);
                check.dueTick(x, since + every, 0);
                check.dueTick(x, since + 2 * every - 1, 0);
                check.dueTick(x, since + 2 * every, 1);
            }
        }
    }

    private static void twentyAreKept() {
        TraceQuestions x = Check.fourRows();
        for (int i = 1; i <= 20; i++) {
            check.dueSaved(x, i, UNKNOWN);
            check.dueSave(x, 0, i, "i=7", i);
            check.dueSaved(x, i, NONE);
        }
        check.dueSave(x, 0, 1, "i=8", ROOM);
        check.due("the text is empty", x.ask(0), 4);
        check.dueSaved(x, 21, UNKNOWN);
        check.due("UNKNOWN before ROOM", x.save(50, 1), UNKNOWN);
        check.due("OUTSIDE before ROOM", x.save(0, 0), OUTSIDE);
        check.due("ROOM for nothing", x.save(0, 1), ROOM);
        check.dueTick(x, 20, 20 + 10 + 6 + 5 + 4 + 3 + 2 + 2 + 2 + 2 + 10);
        for (int i = 1; i <= 20; i++) {
            check.dueSaved(x, i, 2);
        }
    }

    private static void twentyAndAFault() {
        TraceQuestions x = Check.fourRows();
        for (int i = 1; i <= 20; i++) {
            check.dueSave(x, 0, 1, "", i);
        }
        check.dueSave(x, 0, 1, "i=8#", -5);
        check.due("the text is empty", x.ask(0), 4);
        Check.write(x, "i=8");
        check.due("UNKNOWN", x.save(-1, 1), UNKNOWN);
        check.due("OUTSIDE", x.save(0, 2000), OUTSIDE);
        check.due("the text stays", x.ask(0), 1);
        check.dueTick(x, 1, 20);
    }

    /** A kept question stays as it was, whatever is asked and kept after it. */
    private static void aTextOfItsOwn() {
        TraceQuestions x = Check.fourRows();
        check.dueSave(x, 0, 1, "i=7", 1);
        check.dueAsk(x, 1, "k=19", 1);
        check.dueSave(x, 2, 1, "k=2", 2);
        check.dueAsk(x, 0, "o=99#i", 1);
        check.dueAsk(x, 0, "((", -3);
        check.dueSave(x, 1, 1, "-d", 3);
        check.dueAsk(x, 3, "+d", 0);
        check.dueTick(x, 1, 3);
        check.dueSaved(x, 1, 2);
        check.dueSaved(x, 2, 1);
        check.dueSaved(x, 3, 3);
        check.dueAsk(x, 0, "k=2-i", 2);
        check.dueSave(x, 1, 1, "i=9&i", -6);
        check.duePage(x, 4, 3, 1);
        check.dueTick(x, 2, 3);
        check.dueSaved(x, 1, 2);
        check.dueSaved(x, 2, 1);
        check.dueSaved(x, 3, 3);
    }

    private static void changesNothingElse() {
        TraceQuestions x = Check.fourRows();
        check.dueAsk(x, 0, "i=7-k", 2);
        check.dueSave(x, 1, 1, "d=90|k=1|k=2#p", 1);
        check.dueFound(x, 0, 2, 1);
        check.duePage(x, 4, 2, 1);
        check.due("cost", x.cost(), 8);
        check.due("scan", x.scan(1), 3);
    }
}
