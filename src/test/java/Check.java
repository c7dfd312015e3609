/** What the tests share: texts written sign by sign, and answers held against those that are due. */
final class Check {
    static final String LETTERS = "ikpdo";

    private static final int[] GREATEST = {999, 19, 49, 20000, 99};

    private final String test;
    private int answers = 0;
    private int wrong = 0;

    Check(String test) {
        this.test = test;
    }

    void due(String call, long got, long want) {
        answers++;
        if (got != want) {
            wrong++;
            System.out.println(test + ": " + call + " answered " + got + ", due is " + want);
        }
    }

    /** An ask's answer, and the text told in the report. */
    void dueAsk(TraceQuestions x, int who, String text, long want) {
        write(x, text);
        due("ask(" + who + ") of " + text, x.ask(who), want);
    }

    /** A save's answer, and the text told in the report. */
    void dueSave(TraceQuestions x, int who, long every, String text, long want) {
        write(x, text);
        due("save(" + who + ", " + every + ") of " + text, x.save(who, every), want);
    }

    void dueTick(TraceQuestions x, long t, long want) {
        due("tick(" + t + ")", x.tick(t), want);
    }

    void dueSaved(TraceQuestions x, int question, long want) {
        due("saved(" + question + ")", x.saved(question), want);
    }

    /** What found(i, what) tells for i = 0, 1, .., and NONE behind the last. */
    void dueFound(TraceQuestions x, int what, long... want) {
        for (int i = 0; i < want.length; i++) {
            due("found(" + i + ", " + what + ")", x.found(i, what), want[i]);
        }
        due("found(" + want.length + ", " + what + ")", x.found(want.length, what), TraceQuestions.NONE);
    }

    /** What page(0, moment, i) tells for i = 0, 1, .., and NONE behind the last. */
    void duePage(TraceQuestions x, long moment, long... want) {
        for (int i = 0; i < 10; i++) {
            due("page(0, " + moment + ", " + i + ")", x.page(0, moment, i),
                    i < want.length ? want[i] : TraceQuestions.NONE);
        }
    }

    /** Ends the program: with 1 if an answer was wrong, or if there was none at all. */
    void end() {
        System.out.println(test + ": " + answers + " answers, " + wrong + " wrong");
        if (wrong > 0 || answers == 0) {
            System.exit(1);
        }
    }

    static void write(TraceQuestions x, String text) {
        for (int i = 0; i < text.length(); i++) {
            x.sign(text.charAt(i));
        }
    }

    static String times(int n, String text) {
        StringBuilder all = new StringBuilder();
        for (int i = 0; i < n; i++) {
            all.append(text);
        }
        return all.toString();
    }

    static char letter(int field) {
        return LETTERS.charAt(field);
    }

    /** The greatest value that a row's field may have. */
    static int greatest(int field) {
        return GREATEST[field];
    }

    /** An object with four rows, and rights: asker 0 sees all, 1 rows 1 2 4, 2 row 3, 3 none. */
    static TraceQuestions fourRows() {
        TraceQuestions x = new TraceQuestions();
        x.row(7, 2, 3, 100, 5);
        x.row(7, 3, 3, 90, 5);
        x.row(8, 2, 4, 90, 6);
        x.row(9, 19, 49, 20000, 99);
        x.right(0, -1, -1);
        x.right(1, 5, -1);
        x.right(1, -1, 19);
        x.right(2, 6, 2);
        return x;
    }

    /** An object with so many rows of the same fields, but for their items 0, 1, .., all seen by asker 0. */
    static TraceQuestions rows(int count) {
        TraceQuestions x = new TraceQuestions();
        x.right(0, -1, -1);
        for (int i = 0; i < count; i++) {
            x.row(i, 1, 1, 1, 1);
        }
        return x;
    }

    /** An object with a row of each field's least value and one of its greatest, seen by asker 0. */
    static TraceQuestions leastAndGreatest() {
        TraceQuestions x = new TraceQuestions();
        x.right(0, -1, -1);
        x.row(0, 0, 0, 0, 0);
        x.row(greatest(0), greatest(1), greatest(2), greatest(3), greatest(4));
        return x;
    }
}
