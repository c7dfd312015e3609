/** Promises 7 and 14. */
public final class RightTest {
    private static final Check check = new Check("RightTest");
    private static final int UNKNOWN = TraceQuestions.UNKNOWN;
    private static final int OUTSIDE = TraceQuestions.OUTSIDE;

    public static void main(String[] args) {
        howMany();
        eachAsker();
        whatIsSeen();
        ownerAndKind();
        ownerAndKindOfOneRight();
        edges();
        hundredOfAll();
        hundredOfOne();
        scanRefused();
        scanOfNoneOneAndAll();
        check.end();
    }

    private static void howMany() {
        TraceQuestions x = new TraceQuestions();
        check.due("the first", x.right(0, 1, 1), 1);
        check.due("the same", x.right(0, 1, 1), 1);
        check.due("another kind", x.right(0, 1, 2), 2);
        check.due("another owner", x.right(0, 2, 1), 3);
        check.due("any kind", x.right(0, 1, -1), 4);
        check.due("any owner", x.right(0, -1, 1), 5);
        check.due("any of both", x.right(0, -1, -1), 6);
        check.due("any of both again", x.right(0, -1, -1), 6);
        check.due("any kind again", x.right(0, 1, -1), 6);
        check.due("one within any", x.right(0, 50, 10), 7);
        check.due("another asker", x.right(1, 1, 1), 1);
    }

    private static void eachAsker() {
        TraceQuestions x = new TraceQuestions();
        x.row(0, 0, 0, 0, 0);
        for (int who = 0; who < 50; who++) {
            check.due("the first of " + who, x.right(who, -1, -1), 1);
            check.due("the second of " + who, x.right(who, 0, 0), 2);
            check.due("the second again of " + who, x.right(who, 0, 0), 2);
            check.due("scan(" + who + ")", x.scan(who), 1);
            check.dueAsk(x, who, "", 1);
            check.dueFound(x, 0, 1);
        }
    }

    /** Rows of three owners and three kinds, the least and the greatest among them, and one right. */
    private static void ownerAndKind() {
        int[] owners = {0, 1, 99};
        int[] kinds = {0, 1, 19};
        for (int owner : new int[] {-1, 0, 1, 50, 99}) {
            for (int kind : new int[] {-1, 0, 1, 10, 19}) {
                TraceQuestions x = new TraceQuestions();
                check.due("right", x.right(7, owner, kind), 1);
                int seen = 0;
                for (int i = 0; i < 9; i++) {
                    x.row(i, kinds[i % 3], 1, 1, owners[i / 3]);
                    boolean sees = (owner == -1 || owner == owners[i / 3]) && (kind == -1 || kind == kinds[i % 3]);
                    seen += sees ? 1 : 0;
                    check.due("scan with right " + owner + ", " + kind, x.scan(7), seen);
                }
                check.due("scan of another", x.scan(8), 0);
            }
        }
    }

    /** The owner of one right and the kind of another make none seen. */
    private static void ownerAndKindOfOneRight() {
        TraceQuestions x = new TraceQuestions();
        x.right(0, 1, 1);
        x.right(0, 2, 2);
        x.row(1, 2, 1, 1, 1);
        x.row(1, 1, 1, 1, 2);
        check.due("of two rights", x.scan(0), 0);
        x.row(1, 1, 1, 1, 1);
        x.row(1, 2, 1, 1, 2);
        check.due("of one", x.scan(0), 2);
        x.right(0, 1, -1);
        check.due("any kind of 1", x.scan(0), 3);
        x.right(0, -1, 1);
        check.due("1 of any owner", x.scan(0), 4);
    }

    private static void whatIsSeen() {
        TraceQuestions x = Check.fourRows();
        check.due("all", x.scan(0), 4);
        check.due("an owner, a kind", x.scan(1), 3);
        check.due("one of both", x.scan(2), 1);
        check.due("none", x.scan(3), 0);
        x.right(4, 5, 2);
        check.due("5 2", x.scan(4), 1);
        x.right(4, 6, 3);
        check.due("6 3 is not there", x.scan(4), 1);
        x.right(4, 5, 3);
        check.due("5 3", x.scan(4), 2);
        x.right(5, -1, 2);
        check.due("any 2", x.scan(5), 2);
        x.right(6, 99, -1);
        check.due("99 any", x.scan(6), 1);
        x.right(7, 99, 19);
        check.due("99 19", x.scan(7), 1);
        x.right(8, -1, -1);
        check.due("any any", x.scan(8), 4);
        x.row(1, 19, 1, 1, 0);
        check.due("a row more", x.scan(8), 5);
        check.due("a row more", x.scan(1), 4);
        check.due("a row more", x.scan(6), 1);
        x.row(1, 0, 1, 1, 0);
        x.right(9, 0, 0);
        check.due("0 0", x.scan(9), 1);
        x.right(9, -1, 0);
        check.due("any 0", x.scan(9), 1);
        x.right(9, 0, -1);
        check.due("0 any", x.scan(9), 2);
        x.masked(1, true);
        x.masked(4, true);
        x.bound(0);
        check.due("masks and bound do not matter", x.scan(9), 2);
    }

    private static void edges() {
        TraceQuestions x = new TraceQuestions();
        check.due("asker -1", x.right(-1, 0, 0), UNKNOWN);
        check.due("asker 50", x.right(50, 0, 0), UNKNOWN);
        check.due("asker the least", x.right(Integer.MIN_VALUE, 0, 0), UNKNOWN);
        check.due("asker the greatest", x.right(Integer.MAX_VALUE, 0, 0), UNKNOWN);
        check.due("asker -1, kind 20", x.right(-1, 0, 20), UNKNOWN);
        check.due("asker 50, owner 100", x.right(50, 100, 0), UNKNOWN);
        check.due("owner -2", x.right(0, -2, 0), OUTSIDE);
        check.due("owner 100", x.right(0, 100, 0), OUTSIDE);
        check.due("owner the least", x.right(0, Integer.MIN_VALUE, 0), OUTSIDE);
        check.due("owner the greatest", x.right(0, Integer.MAX_VALUE, 0), OUTSIDE);
        check.due("kind -2", x.right(0, 0, -2), OUTSIDE);
        check.due("kind 20", x.right(0, 0, 20), OUTSIDE);
        check.due("kind 32", x.right(0, 0, 32), OUTSIDE);
        check.due("kind the least", x.right(0, -1, Integer.MIN_VALUE), OUTSIDE);
        check.due("kind the greatest", x.right(0, -1, Integer.MAX_VALUE), OUTSIDE);
        check.due("0 0", x.right(0, 0, 0), 1);
        check.due("99 19", x.right(0, 99, 19), 2);
        check.due("-1 19", x.right(49, -1, 19), 1);
        check.due("99 -1", x.right(49, 99, -1), 2);
    }

    private static void hundredOfAll() {
        TraceQuestions x = new TraceQuestions();
        for (int i = 0; i < 100; i++) {
            check.due("right " + i, x.right(i % 50, i, i % 20), 1 + i / 50);
        }
        check.due("one more", x.right(0, 3, 3), TraceQuestions.ROOM);
        check.due("one more of all", x.right(7, -1, -1), TraceQuestions.ROOM);
        check.due("one that they have", x.right(0, 50, 10), 2);
        check.due("UNKNOWN before ROOM", x.right(50, 3, 3), UNKNOWN);
        check.due("OUTSIDE before ROOM", x.right(0, 100, 3), OUTSIDE);
        x.row(1, 3, 1, 1, 3);
        check.due("a refused right", x.scan(0), 0);
        check.due("a refused right", x.scan(7), 0);
        check.due("a right", x.scan(3), 1);
    }

    private static void hundredOfOne() {
        TraceQuestions x = new TraceQuestions();
        for (int i = 0; i < 100; i++) {
            x.right(20, 5, 5);
            check.due("right " + i, x.right(20, i, -1), i + 2 > 100 ? TraceQuestions.ROOM : i + 2);
        }
        check.due("one of another", x.right(21, 1, 1), TraceQuestions.ROOM);
        check.due("the first again", x.right(20, 5, 5), 100);
        check.due("the last again", x.right(20, 98, -1), 100);
        check.due("the one that did not come", x.right(20, 99, -1), TraceQuestions.ROOM);
    }

    private static void scanRefused() {
        TraceQuestions x = Check.fourRows();
        check.due("scan(-1)", x.scan(-1), UNKNOWN);
        check.due("scan(50)", x.scan(50), UNKNOWN);
        check.due("scan of the least", x.scan(Integer.MIN_VALUE), UNKNOWN);
        check.due("scan of the greatest", x.scan(Integer.MAX_VALUE), UNKNOWN);
        check.due("scan(49)", x.scan(49), 0);
    }

    private static void scanOfNoneOneAndAll() {
        TraceQuestions x = new TraceQuestions();
        x.right(0, -1, -1);
        x.right(49, 3, -1);
        for (int i = 0; i < 300; i++) {
            if (i % 10 < 2) {
                check.due("scan(0) of " + i, x.scan(0), i);
            }
            x.row(i, 1, 1, 1, i == 299 ? 3 : 4);
        }
        check.due("scan(0)", x.scan(0), 300);
        check.due("scan(49)", x.scan(49), 1);
        check.due("scan(48)", x.scan(48), 0);
    }
}
