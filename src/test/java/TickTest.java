/** Promise 12. */
public final class TickTest {
    private static final Check check = new Check("TickTest");
    private static final int OUTSIDE = TraceQuestions.OUTSIDE;

    public static void main(String[] args) {
        nothingKept();
        howFar();
        asOftenAsItHas();
        keptAtSeveralTimes();
        faultsAreNotAsked();
        dearAndMaskedOnesCount();
        aFullClock();
        askedAsOfThen();
        check.end();
    }

    private static void nothingKept() {
        TraceQuestions x = Check.fourRows();
        check.dueTick(x, 0, 0);
        check.dueTick(x, 1, 0);
        check.dueTick(x, 1001, 0);
        check.dueTick(x, 1001, 0);
        check.dueTick(x, 1000, OUTSIDE);
    }

    private static void howFar() {
        for (long now : new long[] {0, 1, 50, 1000}) {
            TraceQuestions x = Check.fourRows();
            check.dueSave(x, 0, 10, "", 1);
            check.dueTick(x, now, now / 10);
            check.dueTick(x, now - 1, OUTSIDE);
            check.dueTick(x, now + 1001, OUTSIDE);
            check.dueTick(x, Long.MIN_VALUE, OUTSIDE);
            check.dueTick(x, Long.MAX_VALUE, OUTSIDE);
            check.dueTick(x, (1L << 32) + now, OUTSIDE);
            check.dueTick(x, -now - 1, OUTSIDE);
            check.dueSaved(x, 1, now < 10 ? TraceQuestions.NONE : 4);
            check.dueTick(x, now, 0);
            check.dueTick(x, now + 1000, 100);
            check.dueTick(x, now + 999, OUTSIDE);
            check.dueTick(x, now + 2001, OUTSIDE);
            check.dueTick(x, now + 2000, 100);
        }
    }

    private static void asOftenAsItHas() {
        TraceQuestions x = Check.fourRows();
        check.dueSave(x, 0, 7, "", 1);
        check.dueTick(x, 6, 0);
        check.dueTick(x, 7, 1);
        check.dueTick(x, 13, 0);
        check.dueTick(x, 14, 1);
        check.dueTick(x, 27, 1);
        check.dueTick(x, 28, 1);
        check.dueTick(x, 42, 2);
        check.dueTick(x, 1042, 142);
        check.dueTick(x, 1042, 0);
        TraceQuestions y = Check.fourRows();
        check.dueSave(y, 0, 1, "", 1);
        check.dueSave(y, 0, 3, "", 2);
        check.dueSave(y, 0, 1000, "", 3);
        check.dueTick(y, 10, 13);
        check.dueTick(y, 999, 989 + 330);
        check.dueSaved(y, 3, TraceQuestions.NONE);
        check.dueTick(y, 1000, 2);
        check.dueSaved(y, 3, 4);
        check.dueTick(y, 2000, 1000 + 333 + 1);
    }

    private static void keptAtSeveralTimes() {
        TraceQuestions x = Check.fourRows();
        check.dueSave(x, 0, 10, "i=7", 1);
        check.dueTick(x, 3, 0);
        check.dueSave(x, 0, 10, "i=8", 2);
        check.dueTick(x, 10, 1);
        check.dueSave(x, 0, 10, "", 3);
        check.dueTick(x, 12, 0);
        check.dueTick(x, 13, 1);
        check.dueTick(x, 20, 2);
        check.dueTick(x, 40, 6);
        check.dueSaved(x, 1, 2);
        check.dueSaved(x, 2, 1);
        check.dueSaved(x, 3, 4);
    }

    private static void faultsAreNotAsked() {
        TraceQuestions x = Check.fourRows();
        check.dueSave(x, 0, 1, "i=7&", -5);
        check.dueTick(x, 1000, 0);
    }

    private static void dearAndMaskedOnesCount() {
        TraceQuestions x = Check.fourRows();
        check.dueSave(x, 0, 1, "i=7", 1);
        check.dueSave(x, 0, 2, "", 2);
        x.bound(3);
        check.dueTick(x, 10, 15);
        x.bound(100);
        x.masked(0, true);
        check.dueTick(x, 20, 15);
        check.dueSaved(x, 1, TraceQuestions.NONE);
        check.dueSaved(x, 2, 4);
    }

    private static void aFullClock() {
        TraceQuestions x = Check.fourRows();
        for (int i = 1; i <= 20; i++) {
            check.dueSave(x, 0, 1, "", i);
        }
        for (int i = 1; i <= 450; i++) {
            check.dueTick(x, i * 1000L, 20000);
        }
        check.dueTick(x, 450000 + 1001, OUTSIDE);
        check.dueTick(x, 450000 - 1, OUTSIDE);
        check.dueTick(x, 450001, 20);
    }

    /** Rows, rights, masks and the bound are those of the tick, not those of the save. */
    private static void askedAsOfThen() {
        TraceQuestions x = new TraceQuestions();
        check.dueSave(x, 5, 1, "i=7", 1);
        check.dueTick(x, 1, 1);
        check.dueSaved(x, 1, 0);
        x.row(7, 1, 1, 1, 1);
        x.row(8, 1, 1, 1, 1);
        check.dueTick(x, 2, 1);
        check.dueSaved(x, 1, 0);
        x.right(5, 1, 1);
        check.dueSaved(x, 1, 0);
        check.dueTick(x, 3, 1);
        check.dueSaved(x, 1, 1);
        x.row(7, 1, 1, 1, 1);
        check.dueSaved(x, 1, 1);
        check.dueTick(x, 4, 1);
        check.dueSaved(x, 1, 2);
    }
}
