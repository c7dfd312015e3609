/** Promise 13. */
public final class SavedTest {
    private static final Check check = new Check("SavedTest");
    private static final int NONE = TraceQuestions.NONE;
    private static final int UNKNOWN = TraceQuestions.UNKNOWN;

    public static void main(String[] args) {
        noSuchQuestion();
        neverAsked();
        theLatest();
        noneFound();
        groups();
        dear();
        masked();
        namedTwice();
        fieldsOfATextBefore();
        eachForItself();
        check.end();
    }

    private static void noSuchQuestion() {
        TraceQuestions x = Check.fourRows();
        check.dueSaved(x, 0, UNKNOWN);
        check.dueSaved(x, 1, UNKNOWN);
        for (int kept = 1; kept <= 20; kept++) {
            check.dueSave(x, 0, 1, "", kept);
            check.dueSaved(x, -1, UNKNOWN);
            check.dueSaved(x, 0, UNKNOWN);
            check.dueSaved(x, 1, NONE);
            check.dueSaved(x, kept, NONE);
            check.dueSaved(x, kept + 1, UNKNOWN);
        }
        check.dueSaved(x, Integer.MIN_VALUE, UNKNOWN);
        check.dueSaved(x, Integer.MAX_VALUE, UNKNOWN);
    }

    private static void neverAsked() {
        TraceQuestions x = Check.fourRows();
        check.dueSave(x, 0, 2, "i=7", 1);
        check.dueSaved(x, 1, NONE);
        check.dueAsk(x, 0, "i=7", 2);
        check.dueSaved(x, 1, NONE);
        check.dueTick(x, 1, 0);
        check.dueSaved(x, 1, NONE);
        check.dueTick(x, 2, 1);
        check.dueSaved(x, 1, 2);
    }

    private static void theLatest() {
        TraceQuestions x = Check.fourRows();
        check.dueSave(x, 0, 2, "i=7", 1);
        check.dueSave(x, 2, 3, "", 2);
        check.dueTick(x, 2, 1);
        check.dueSaved(x, 1, 2);
        check.dueSaved(x, 2, NONE);
        x.row(7, 2, 1, 1, 6);
        check.dueSaved(x, 1, 2);
        check.dueTick(x, 3, 1);
        check.dueSaved(x, 1, 2);
        check.dueSaved(x, 2, 2);
        x.right(2, -1, -1);
        check.dueTick(x, 6, 3);
        check.dueSaved(x, 1, 3);
        check.dueSaved(x, 2, 5);
    }

    private static void noneFound() {
        TraceQuestions x = Check.fourRows();
        check.dueSave(x, 0, 1, "i=6", 1);
        check.dueSave(x, 3, 1, "", 2);
        check.dueSave(x, 0, 1, "i=6#k", 3);
        check.dueTick(x, 1, 3);
        check.dueSaved(x, 1, 0);
        check.dueSaved(x, 2, 0);
        check.dueSaved(x, 3, 0);
    }

    private static void groups() {
        TraceQuestions x = Check.fourRows();
        check.dueSave(x, 0, 1, "#i", 1);
        check.dueSave(x, 1, 1, "#k", 2);
        check.dueSave(x, 0, 1, "k=2#o", 3);
        check.dueSave(x, 0, 1, "-o", 4);
        check.dueTick(x, 1, 4);
        check.dueSaved(x, 1, 3);
        check.dueSaved(x, 2, 3);
        check.dueSaved(x, 3, 2);
        check.dueSaved(x, 4, 4);
    }

    private static void dear() {
        TraceQuestions x = Check.fourRows();
        check.dueSave(x, 0, 10, "i=7", 1);
        x.bound(7);
        check.dueTick(x, 10, 1);
        check.dueSaved(x, 1, NONE);
        x.bound(8);
        check.dueSaved(x, 1, NONE);
        check.dueTick(x, 20, 1);
        check.dueSaved(x, 1, 2);
        x.bound(0);
        check.dueSaved(x, 1, 2);
        x.row(7, 1, 1, 1, 1);
        x.bound(9);
        check.dueTick(x, 30, 1);
        check.dueSaved(x, 1, NONE);
        x.bound(10);
        check.dueTick(x, 39, 0);
        check.dueSaved(x, 1, NONE);
        check.dueTick(x, 40, 1);
        check.dueSaved(x, 1, 3);
    }

    private static void masked() {
        String[] texts = {"i=7", "k=2#p", "+d", "-o", "!(i=9|o=6)"};
        int[][] fields = {{0}, {1, 2}, {3}, {4}, {0, 4}};
        int[] counts = {2, 2, 4, 4, 2};
        for (int t = 0; t < texts.length; t++) {
            TraceQuestions x = Check.fourRows();
            check.dueSave(x, 0, 1, texts[t], 1);
            for (int field = 0; field < 5; field++) {
                boolean named = false;
                for (int f : fields[t]) {
                    named |= f == field;
                }
                dueMaskedAndNot(x, field, named ? NONE : counts[t], counts[t], 2 * field);
            }
        }
    }

    /** Asked while a field is masked, and asked again when it is not; a mask in between changes nothing. */
    private static void dueMaskedAndNot(TraceQuestions x, int field, int masked, int open, long now) {
        x.masked(field, true);
        check.dueTick(x, now + 1, 1);
        check.dueSaved(x, 1, masked);
        x.masked(field, false);
        check.dueSaved(x, 1, masked);
        check.dueTick(x, now + 2, 1);
        check.dueSaved(x, 1, open);
        x.masked(field, true);
        check.dueSaved(x, 1, open);
        x.masked(field, false);
    }

    /** In two tests, and in a test and behind it: a field of it all the same. */
    private static void namedTwice() {
        for (int field = 0; field < 5; field++) {
            char letter = Check.letter(field);
            String test = letter + "<99999";
            for (String text : new String[] {test + "&" + test, test + "+" + letter, test + "#" + letter,
                test + "|(" + test + "&!" + test + ")-" + letter}) {
                TraceQuestions x = Check.leastAndGreatest();
                check.dueSave(x, 0, 1, text, 1);
                dueMaskedAndNot(x, field, NONE, 2, 0);
            }
        }
    }

    /** The fields of a text that was read before, with a fault or not, are not a kept question's. */
    private static void fieldsOfATextBefore() {
        TraceQuestions x = Check.fourRows();
        check.dueAsk(x, 0, "k=2&o=1&", -9);
        check.dueSave(x, 0, 1, "p=1+x", -5);
        check.dueSave(x, 0, 1, "i=7", 1);
        check.dueAsk(x, 0, "k=2", 2);
        check.dueAsk(x, 0, "d=100", 1);
        check.dueSave(x, 0, 1, "i=8", 2);
        for (int field = 1; field < 5; field++) {
            x.masked(field, true);
        }
        check.dueTick(x, 1, 2);
        check.dueSaved(x, 1, 2);
        check.dueSaved(x, 2, 1);
    }

    /** One that is dear, one that is masked, one that is neither, one that is not asked. */
    private static void eachForItself() {
        TraceQuestions x = Check.fourRows();
        check.dueSave(x, 0, 1, "i=7&k=2", 1);
        check.dueSave(x, 0, 1, "d=90", 2);
        check.dueSave(x, 0, 1, "k=2", 3);
        check.dueSave(x, 0, 2, "", 4);
        x.bound(8);
        x.masked(3, true);
        check.dueTick(x, 1, 3);
        check.dueSaved(x, 1, NONE);
        check.dueSaved(x, 2, NONE);
        check.dueSaved(x, 3, 2);
        check.dueSaved(x, 4, NONE);
    }
}
