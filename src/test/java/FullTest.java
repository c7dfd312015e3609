/** All that an object can hold, at once and one by one, within the 512 calls that it is used for. */
public final class FullTest {
    private static final Check check = new Check("FullTest");
    private static final int NONE = TraceQuestions.NONE;

    public static void main(String[] args) {
        threeHundredAlike();
        threeHundredApart();
        threeHundredGroups();
        theDearestQuestion();
        allAtOnce();
        theLastCall();
        check.end();
    }

    private static TraceQuestions alike() {
        TraceQuestions x = new TraceQuestions();
        x.right(0, -1, -1);
        for (int i = 0; i < 300; i++) {
            x.row(1, 1, 1, 1, 1);
        }
        return x;
    }

    private static void threeHundredAlike() {
        TraceQuestions x = alike();
        for (String text : new String[] {"", "+d", "-d", "i=1-i", "!i=2+o"}) {
            check.dueAsk(x, 0, text, 300);
            for (int place : new int[] {0, 1, 9, 10, 150, 298, 299}) {
                check.due("found(" + place + ", 0) of " + text, x.found(place, 0), place + 1);
                check.due("the page's", x.page(place / 10, 300, place % 10), place + 1);
            }
            check.due("behind the last", x.found(300, 0), NONE);
            check.due("behind the last", x.page(30, 300, 0), NONE);
        }
        check.dueAsk(x, 0, "#k", 1);
        check.dueFound(x, 0, 1);
        check.dueFound(x, 1, 300);
        check.due("of 0 rows", x.page(0, 0, 0), NONE);
    }

    private static void threeHundredApart() {
        TraceQuestions x = Check.rows(300);
        check.dueAsk(x, 0, "-i", 300);
        for (int place : new int[] {0, 1, 9, 10, 150, 298, 299}) {
            check.due("found(" + place + ", 0)", x.found(place, 0), 300 - place);
            check.due("found(" + place + ", 1)", x.found(place, 1), 299 - place);
            check.due("the page's", x.page(place / 10, 300, place % 10), 300 - place);
            check.due("of 299", x.page(place / 10, 299, place % 10), place == 299 ? NONE : 299 - place);
            check.due("of 1", x.page(place / 10, 1, place % 10), place == 0 ? 1 : NONE);
        }
        check.due("of 301", x.page(0, 301, 0), TraceQuestions.OUTSIDE);
        check.dueAsk(x, 0, "i>298|i<1-i", 2);
        check.dueFound(x, 0, 300, 1);
        check.dueAsk(x, 0, "!i<299", 1);
        check.dueFound(x, 0, 300);
        check.dueAsk(x, 0, "i>299", 0);
        check.dueFound(x, 0);
    }

    private static void threeHundredGroups() {
        TraceQuestions x = Check.rows(300);
        check.dueAsk(x, 0, "#i", 300);
        for (int place : new int[] {0, 1, 9, 10, 150, 298, 299}) {
            check.due("the value", x.found(place, 0), place);
            check.due("how many", x.found(place, 1), 1);
            check.due("the page's", x.page(place / 10, 300, place % 10), place);
        }
        check.due("behind the last", x.found(300, 0), NONE);
        check.due("behind the last", x.found(300, 1), NONE);
        check.due("behind the last", x.page(30, 300, 0), NONE);
        check.dueAsk(x, 0, "!i=7#i", 299);
        check.due("the value", x.found(298, 0), 299);
        check.due("behind the last", x.found(299, 0), NONE);
    }

    /** 300 rows, 40 tests, 20 deep, 200 signs. */
    private static void theDearestQuestion() {
        String text = Check.times(36, "i=1|") + Check.times(2, "i=00001|") + Check.times(17, "!")
                + "(((k=00001&i>00299)))-i";
        check.due("signs", text.length(), 200);
        TraceQuestions x = Check.rows(300);
        check.dueAsk(x, 0, text, 300);
        check.due("its cost", x.cost(), 41 * 300);
        check.due("first", x.found(0, 0), 300);
        check.due("last", x.found(299, 0), 1);
    }

    /** 100 rights, 20 kept, and rows up to the 512 calls, with all of them asked at once. */
    private static void allAtOnce() {
        TraceQuestions x = new TraceQuestions();
        for (int i = 0; i < 100; i++) {
            check.due("right " + i, x.right(i / 2, i % 2 == 0 ? -1 : i, i % 2 == 0 ? i / 5 : -1), i % 2 + 1);
        }
        for (int i = 1; i <= 20; i++) {
            check.dueSave(x, i, 1, "+d", i);
        }
        for (int i = 1; i <= 300; i++) {
            x.row(i, i % 20, i % 50, 20000 - i, i % 100);
        }
        check.due("a right more", x.right(0, 99, 19), TraceQuestions.ROOM);
        check.due("a question more", x.save(0, 1), TraceQuestions.ROOM);
        check.due("a row more", x.row(1, 1, 1, 1, 1), TraceQuestions.ROOM);
        check.dueTick(x, 1000, 20000);
        for (int i = 1; i <= 20; i++) {
            // Of a kind 15 rows, of an owner 3; the owner's have one kind, now and then the same.
            int kind = 2 * i / 5;
            int owner = 2 * i + 1;
            check.dueSaved(x, i, 15 + (owner % 20 == kind ? 0 : 3));
        }
    }

    private static void theLastCall() {
        TraceQuestions x = Check.rows(300);
        check.dueSave(x, 0, 1, "-i", 1);
        // 304 calls were made: the right, the rows, two signs and the save.
        for (int call = 305; call <= 510; call++) {
            check.dueTick(x, 1000L * (call - 304), 1000);
        }
        check.due("call 511", x.ask(0), 300);
        check.due("call 512", x.found(299, 0), 300);
    }
}
