/**
 * Terms, FAULT: at each kind of place in a text, which of the characters 32 .. 126 can stand there and
 * which cannot, and whether the text may end there; for ask and for save.
 */
public final class NextSignTest {
    private static final Check check = new Check("NextSignTest");
    private static final String LETTERS = Check.LETTERS;
    private static final String TEST = LETTERS + "!(";
    private static final String RELATION = "=<>";
    private static final String FIGURE = "0123456789";
    private static final String JOIN = "&|";
    private static final String TAIL = "#+-";
    private static final String FORTY = Check.times(39, "i=1|") + "i=1";
    private static final boolean ENDS = true;
    private static final boolean GOES_ON = false;
    private static final int NO_MASK = -1;

    public static void main(String[] args) {
        atTheBegin();
        withinATest();
        figures();
        behindATest();
        withinBrackets();
        behindATurn();
        tails();
        twentyDeep();
        theirEnds();
        fortyTests();
        masks();
        check.end();
    }

    private static TraceQuestions object(int maskedField, String text) {
        TraceQuestions x = Check.rows(1);
        x.masked(maskedField, true);
        Check.write(x, text);
        return x;
    }

    private static void dueFault(int maskedField, String text, int place) {
        check.due("ask of " + text, object(maskedField, text).ask(0), -1 - place);
        check.due("save of " + text, object(maskedField, text).save(0, 1), -1 - place);
    }

    private static void dueFine(int maskedField, String text) {
        check.due("ask of " + text + " finds", object(maskedField, text).ask(0) >= 0 ? 1 : 0, 1);
        check.due("save of " + text, object(maskedField, text).save(0, 1), 1);
    }

    /** The character stands: the text has no fault, or only the one that it ends too early. */
    private static void dueStands(int maskedField, String text) {
        int ask = object(maskedField, text).ask(0);
        int save = object(maskedField, text).save(0, 1);
        int early = -1 - text.length();
        check.due("the last of " + text + " stands in ask", ask >= 0 || ask == early ? 1 : 0, 1);
        check.due("the last of " + text + " stands in save", save == 1 || save == early ? 1 : 0, 1);
    }

    private static void dueNext(String before, String can, boolean mayEnd) {
        dueNext(NO_MASK, before, can, mayEnd);
    }

    private static void dueNext(int maskedField, String before, String can, boolean mayEnd) {
        for (int c = 32; c <= 126; c++) {
            if (can.indexOf(c) >= 0) {
                dueStands(maskedField, before + (char) c);
            } else {
                dueFault(maskedField, before + (char) c, before.length());
            }
        }
        if (mayEnd) {
            dueFine(maskedField, before);
        } else {
            dueFault(maskedField, before, before.length());
        }
    }

    private static void atTheBegin() {
        dueNext("", TEST + TAIL, ENDS);
    }

    private static void withinATest() {
        for (int field = 0; field < 5; field++) {
            String letter = "" + Check.letter(field);
            dueNext(letter, RELATION, GOES_ON);
            dueNext(letter + "=", FIGURE, GOES_ON);
            dueNext(letter + "<", FIGURE, GOES_ON);
            dueNext(letter + ">", FIGURE, GOES_ON);
            dueNext(letter + "=1", FIGURE + JOIN + TAIL, ENDS);
        }
    }

    private static void figures() {
        for (String figure : new String[] {"0", "1", "9"}) {
            for (int count = 1; count <= 4; count++) {
                dueNext("i<" + Check.times(count, figure), FIGURE + JOIN + TAIL, ENDS);
            }
            dueNext("i<" + Check.times(5, figure), JOIN + TAIL, ENDS);
            dueNext("(i<" + Check.times(5, figure), JOIN + ")", GOES_ON);
            dueNext("k>12345&i<" + Check.times(4, figure), FIGURE + JOIN + TAIL, ENDS);
            dueNext("k>12345&i<" + Check.times(5, figure), JOIN + TAIL, ENDS);
        }
    }

    private static void behindATest() {
        for (String join : new String[] {"&", "|"}) {
            dueNext("i=1" + join, TEST, GOES_ON);
            dueNext("i=1" + join + "k", RELATION, GOES_ON);
            dueNext("i=1" + join + "k=", FIGURE, GOES_ON);
            dueNext("i=1" + join + "k=1", FIGURE + JOIN + TAIL, ENDS);
            dueNext("i=1" + join + "k=1&", TEST, GOES_ON);
            dueNext("i=1" + join + "k=1|", TEST, GOES_ON);
            dueNext("(i=1)" + join, TEST, GOES_ON);
            dueNext("!i=1" + join, TEST, GOES_ON);
            dueNext("(i=1" + join, TEST, GOES_ON);
            dueNext("(i=1" + join + "k=1", FIGURE + JOIN + ")", GOES_ON);
        }
    }

    private static void withinBrackets() {
        dueNext("(", TEST, GOES_ON);
        dueNext("((", TEST, GOES_ON);
        dueNext("(i", RELATION, GOES_ON);
        dueNext("(i=", FIGURE, GOES_ON);
        dueNext("(i=1", FIGURE + JOIN + ")", GOES_ON);
        dueNext("(i=1)", JOIN + TAIL, ENDS);
        dueNext("((i=1)", JOIN + ")", GOES_ON);
        dueNext("((i=1))", JOIN + TAIL, ENDS);
        dueNext("((i=1)&k=1", FIGURE + JOIN + ")", GOES_ON);
        dueNext("(i=1)&(", TEST, GOES_ON);
        dueNext("(i=1)|(k=1", FIGURE + JOIN + ")", GOES_ON);
        dueNext("(i=1)|(k=1)", JOIN + TAIL, ENDS);
        dueNext("i=1&(k=1|(p=1))", JOIN + TAIL, ENDS);
    }

    private static void behindATurn() {
        dueNext("!", TEST, GOES_ON);
        dueNext("!!", TEST, GOES_ON);
        dueNext("!i", RELATION, GOES_ON);
        dueNext("!i=1", FIGURE + JOIN + TAIL, ENDS);
        dueNext("!i=12345", JOIN + TAIL, ENDS);
        dueNext("!(", TEST, GOES_ON);
        dueNext("!(i=1", FIGURE + JOIN + ")", GOES_ON);
        dueNext("!(i=1)", JOIN + TAIL, ENDS);
        dueNext("(!", TEST, GOES_ON);
        dueNext("(!i=1", FIGURE + JOIN + ")", GOES_ON);
        dueNext("(!i=1)", JOIN + TAIL, ENDS);
        dueNext("!(!(i=1)", JOIN + ")", GOES_ON);
        dueNext("!(!(i=1))", JOIN + TAIL, ENDS);
    }

    private static void tails() {
        for (String tail : new String[] {"#", "+", "-"}) {
            for (String before : new String[] {"", "i=1", "i=12345", "(i=1)", "!i=1", "!(i=1)", "i=1|!k=1"}) {
                dueNext(before + tail, LETTERS, GOES_ON);
                dueNext(before + tail + "i", "", ENDS);
                dueNext(before + tail + "o", "", ENDS);
            }
        }
    }

    private static void twentyDeep() {
        for (String one : new String[] {"(", "!"}) {
            dueNext(Check.times(18, one), TEST, GOES_ON);
            dueNext(Check.times(19, one), TEST, GOES_ON);
            dueNext(Check.times(20, one), LETTERS, GOES_ON);
        }
        dueNext(Check.times(9, "!(") + "!", TEST, GOES_ON);
        dueNext(Check.times(10, "!("), LETTERS, GOES_ON);
        dueNext(Check.times(9, "(!") + "(", TEST, GOES_ON);
        dueNext(Check.times(10, "(!"), LETTERS, GOES_ON);
        dueNext(Check.times(19, "!") + "(", LETTERS, GOES_ON);
        dueNext(Check.times(19, "(") + "!", LETTERS, GOES_ON);
        dueNext("!" + Check.times(19, "("), LETTERS, GOES_ON);
        dueNext("(" + Check.times(19, "!"), LETTERS, GOES_ON);
    }

    /** How deep it is behind a test of which brackets and turns end. */
    private static void theirEnds() {
        String open = Check.times(20, "(");
        dueNext(open + "i=1", FIGURE + JOIN + ")", GOES_ON);
        dueNext(open + "i=1&", LETTERS, GOES_ON);
        dueNext(open + "i=1)&", TEST, GOES_ON);
        dueNext(open + "i=1)&!", LETTERS, GOES_ON);
        dueNext(open + "i=1))|!", TEST, GOES_ON);
        dueNext(open + "i=1))|!!", LETTERS, GOES_ON);
        dueNext(open + "i=1" + Check.times(20, ")"), JOIN + TAIL, ENDS);
        dueNext(open + "i=1" + Check.times(20, ")") + "&" + Check.times(19, "!"), TEST, GOES_ON);
        dueNext(open + "i=1" + Check.times(20, ")") + "&" + Check.times(20, "!"), LETTERS, GOES_ON);
        String turns = Check.times(20, "!");
        dueNext(turns + "i=1", FIGURE + JOIN + TAIL, ENDS);
        dueNext(turns + "i=1&" + Check.times(19, "("), TEST, GOES_ON);
        dueNext(turns + "i=1|" + Check.times(20, "("), LETTERS, GOES_ON);
        dueNext("!!!(!!i=1|" + Check.times(15, "!"), TEST, GOES_ON);
        dueNext("!!!(!!i=1|" + Check.times(16, "!"), LETTERS, GOES_ON);
        dueNext("!!!(!!(i=1)|" + Check.times(15, "("), TEST, GOES_ON);
        dueNext("!!!(!!(i=1)|" + Check.times(16, "("), LETTERS, GOES_ON);
        dueNext("!!!(!!(i=1|" + Check.times(12, "("), TEST, GOES_ON);
        dueNext("!!!(!!(i=1|" + Check.times(13, "("), LETTERS, GOES_ON);
        dueNext("!!!(!!(i=1))|" + Check.times(19, "("), TEST, GOES_ON);
        dueNext("!!!(!!(i=1))|" + Check.times(20, "("), LETTERS, GOES_ON);
    }

    private static void fortyTests() {
        dueNext(Check.times(38, "i=1|") + "i=1&", TEST, GOES_ON);
        dueNext(FORTY, FIGURE + JOIN + TAIL, ENDS);
        dueNext(FORTY + "&", "!(", GOES_ON);
        dueNext(FORTY + "|", "!(", GOES_ON);
        dueNext(FORTY + "|!", "!(", GOES_ON);
        dueNext(FORTY + "&((", "!(", GOES_ON);
        dueNext(FORTY + "&" + Check.times(20, "("), "", GOES_ON);
        for (String tail : new String[] {"#", "+", "-"}) {
            dueNext(FORTY + tail, LETTERS, GOES_ON);
            dueNext(FORTY + tail + "i", "", ENDS);
        }
        String twenty = Check.times(19, "i=1|") + "k=1";
        dueNext("(" + twenty + ")&(" + twenty + ")", JOIN + TAIL, ENDS);
        dueNext("(" + twenty + ")&(" + twenty + ")|", "!(", GOES_ON);
        dueNext("(" + twenty + ")&!(" + twenty + "&", "!(", GOES_ON);
    }

    private static void masks() {
        for (int field = 0; field < 5; field++) {
            String others = LETTERS.replace("" + Check.letter(field), "");
            String other = others.substring(0, 1);
            dueNext(field, "", others + "!(" + TAIL, ENDS);
            dueNext(field, "(", others + "!(", GOES_ON);
            dueNext(field, "!", others + "!(", GOES_ON);
            dueNext(field, other + "=1&", others + "!(", GOES_ON);
            dueNext(field, other + "=1|", others + "!(", GOES_ON);
            dueNext(field, "#", others, GOES_ON);
            dueNext(field, "+", others, GOES_ON);
            dueNext(field, "-", others, GOES_ON);
            dueNext(field, other + "=1#", others, GOES_ON);
            dueNext(field, Check.times(20, "!"), others, GOES_ON);
        }
    }
}
