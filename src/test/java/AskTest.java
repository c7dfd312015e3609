/** Promise 4: what conditions, orders and groups find. Its faults stand in TextTest and NextSignTest. */
public final class AskTest {
    private static final Check check = new Check("AskTest");

    public static void main(String[] args) {
        relations();
        relationsAtTheEdges();
        figures();
        partsAndTests();
        severalPartsTrue();
        turns();
        brackets();
        deepBrackets();
        theFortiethTest();
        noRowAndOne();
        orders();
        ordersAtTheEdges();
        groups();
        groupsAtTheEdges();
        groupsOfTheFoundAlone();
        rightsOfTheAsker();
        refusals();
        check.end();
    }

    private static void dueRows(TraceQuestions x, String text, long... rows) {
        check.dueAsk(x, 0, text, rows.length);
        check.dueFound(x, 0, rows);
    }

    private static void relations() {
        TraceQuestions x = Check.fourRows();
        dueRows(x, "", 1, 2, 3, 4);
        dueRows(x, "i=7", 1, 2);
        dueRows(x, "i<8", 1, 2);
        dueRows(x, "i>8", 4);
        dueRows(x, "i<7");
        dueRows(x, "i>9");
        dueRows(x, "k=19", 4);
        dueRows(x, "k<3", 1, 3);
        dueRows(x, "p>3", 3, 4);
        dueRows(x, "d=20000", 4);
        dueRows(x, "d<100", 2, 3);
        dueRows(x, "o>5", 3, 4);
        dueRows(x, "o=99", 4);
        dueRows(x, "o=9");
    }

    private static void relationsAtTheEdges() {
        for (int field = 0; field < 5; field++) {
            TraceQuestions x = Check.leastAndGreatest();
            char letter = Check.letter(field);
            int greatest = Check.greatest(field);
            dueRows(x, letter + "=0", 1);
            dueRows(x, letter + "<0");
            dueRows(x, letter + ">0", 2);
            dueRows(x, letter + "<1", 1);
            dueRows(x, letter + "=1");
            dueRows(x, letter + "=" + greatest, 2);
            dueRows(x, letter + ">" + greatest);
            dueRows(x, letter + "<" + greatest, 1);
            dueRows(x, letter + ">" + (greatest - 1), 2);
            dueRows(x, letter + "<" + (greatest + 1), 1, 2);
            dueRows(x, letter + "=99999");
            dueRows(x, letter + "<99999", 1, 2);
            dueRows(x, letter + ">99999");
        }
    }

    private static void figures() {
        TraceQuestions x = Check.rows(12);
        for (String zeros : new String[] {"", "0", "00", "000", "0000"}) {
            dueRows(x, "i=" + zeros + "7", 8);
        }
        for (String zeros : new String[] {"0", "00", "000"}) {
            dueRows(x, "i>" + zeros + "10", 12);
        }
        dueRows(x, "i=00000", 1);
        dueRows(x, "i=70");
        dueRows(x, "i=10000");
        x.row(123, 1, 1, 12345, 1);
        dueRows(x, "d=12345", 13);
        dueRows(x, "d>12344", 13);
        dueRows(x, "d=1234");
        dueRows(x, "i=123", 13);
        dueRows(x, "i=321");
    }

    private static void partsAndTests() {
        TraceQuestions x = Check.fourRows();
        dueRows(x, "i=7&k=2", 1);
        dueRows(x, "i=7|k=2", 1, 2, 3);
        dueRows(x, "k=2&d<95|k=19", 3, 4);
        dueRows(x, "k=19|k=2&d<95", 3, 4);
        dueRows(x, "i=7&k=2&d=100&o=5&p=3", 1);
        dueRows(x, "i=7&k=2&d=100&o=5&p=4");
        dueRows(x, "i=7&k=3|i=8&k=2|i=9&k=1", 2, 3);
        dueRows(x, "i=1|i=2|i=9", 4);
        dueRows(x, "i=9|i=2|i=1", 4);
    }

    private static void severalPartsTrue() {
        TraceQuestions x = Check.fourRows();
        dueRows(x, "i=7|i=7", 1, 2);
        dueRows(x, "i=7|i=7|i=1", 1, 2);
        dueRows(x, "i=7|k=2|p=3|d=1", 1, 2, 3);
        dueRows(x, "(i=7|i<8|i=1)&d=90", 2);
        dueRows(x, "i=7&i=7&i=7", 1, 2);
        dueRows(x, "i=1&i=1");
        dueRows(x, "i=1&i=7|i=7&i=1|i=8&i=8", 3);
    }

    private static void turns() {
        TraceQuestions x = Check.fourRows();
        dueRows(x, "!i=7", 3, 4);
        dueRows(x, "!!i=7", 1, 2);
        dueRows(x, "!!!i=7", 3, 4);
        dueRows(x, "!i=7&k=2", 3);
        dueRows(x, "k=2&!i=7", 3);
        dueRows(x, "!i=7&!k=2", 4);
        dueRows(x, "!i=7|k=2", 1, 3, 4);
        dueRows(x, Check.times(20, "!") + "i=8", 3);
        dueRows(x, Check.times(19, "!") + "i=8", 1, 2, 4);
    }

    private static void brackets() {
        TraceQuestions x = Check.fourRows();
        dueRows(x, "(i=7|k=2)&d=90", 2, 3);
        dueRows(x, "i=7|k=2&d=90", 1, 2, 3);
        dueRows(x, "d=90&(i=7|k=2)", 2, 3);
        dueRows(x, "!(i=7|k=2)", 4);
        dueRows(x, "!(i=7&k=2)", 2, 3, 4);
        dueRows(x, "!!(i=7&k=2)", 1);
        dueRows(x, "!(!i=7)", 1, 2);
        dueRows(x, "!(i=7&!(k=2|d=20000))", 1, 3, 4);
        dueRows(x, "((i=7)&((k=2)|(k=3&d=90)))", 1, 2);
        dueRows(x, "!(i=7)&(k=2)|!(o<99)", 3, 4);
        dueRows(x, "(i=7&k=2)|(i=8)", 1, 3);
        dueRows(x, "(i=1|i=2)|i=7", 1, 2);
        dueRows(x, "i=7&(i=1|(i=7&(k=1|k=3)))", 2);
    }

    private static void deepBrackets() {
        TraceQuestions x = Check.fourRows();
        StringBuilder text = new StringBuilder();
        for (int i = 0; i < 20; i++) {
            text.append("i=7&(");
        }
        dueRows(x, text + "k=2|k=3" + Check.times(20, ")"), 1, 2);
        dueRows(x, Check.times(20, "i=1|(") + "k=2&i>0" + Check.times(20, ")"), 1, 3);
        dueRows(x, Check.times(10, "!(") + "k=2" + Check.times(10, ")"), 1, 3);
        dueRows(x, Check.times(9, "!(") + "k=2" + Check.times(9, ")"), 2, 4);
        dueRows(x, Check.times(20, "(") + "k=2" + Check.times(20, ")") + "|i=7", 1, 2, 3);
    }

    /** Of forty tests the last decides, and so does the first. */
    private static void theFortiethTest() {
        TraceQuestions x = Check.fourRows();
        dueRows(x, Check.times(39, "i=1|") + "k=3", 2);
        dueRows(x, "k=3" + Check.times(39, "|i=1"), 2);
        TraceQuestions y = Check.fourRows();
        dueRows(y, Check.times(39, "i>0&") + "k=3", 2);
        dueRows(y, "k=3" + Check.times(39, "&i>0"), 2);
    }

    private static void noRowAndOne() {
        String[] texts = {"", "i=0", "!i=9", "+d", "-d", "i<1+k", "#p", "i=0#o", "!i=9-d"};
        for (String text : texts) {
            TraceQuestions x = Check.rows(0);
            check.dueAsk(x, 0, text, 0);
            check.dueFound(x, 0);
            check.dueFound(x, 1);
            x = Check.rows(1);
            check.dueAsk(x, 0, text, 1);
            check.dueFound(x, 0, 1);
            check.dueAsk(x, 1, text, 0);
            check.dueFound(x, 0);
        }
    }

    private static void orders() {
        TraceQuestions x = Check.fourRows();
        dueRows(x, "+i", 1, 2, 3, 4);
        dueRows(x, "-i", 4, 3, 1, 2);
        dueRows(x, "+k", 1, 3, 2, 4);
        dueRows(x, "-k", 4, 2, 1, 3);
        dueRows(x, "+p", 1, 2, 3, 4);
        dueRows(x, "-p", 4, 3, 1, 2);
        dueRows(x, "+d", 2, 3, 1, 4);
        dueRows(x, "-d", 4, 1, 2, 3);
        dueRows(x, "+o", 1, 2, 3, 4);
        dueRows(x, "-o", 4, 3, 1, 2);
        dueRows(x, "!i=8+d", 2, 1, 4);
        dueRows(x, "!i=8-d", 4, 1, 2);
        dueRows(x, "(i=8|i=7)-d", 1, 2, 3);
        x.row(8, 2, 4, 0, 6);
        x.row(8, 2, 4, 20000, 6);
        dueRows(x, "+d", 5, 2, 3, 1, 4, 6);
        dueRows(x, "-d", 4, 6, 1, 2, 3, 5);
        dueRows(x, "", 1, 2, 3, 4, 5, 6);
    }

    private static void ordersAtTheEdges() {
        for (int field = 0; field < 5; field++) {
            TraceQuestions x = Check.leastAndGreatest();
            char letter = Check.letter(field);
            dueRows(x, "+" + letter, 1, 2);
            dueRows(x, "-" + letter, 2, 1);
            x.row(0, 0, 0, 0, 0);
            dueRows(x, "+" + letter, 1, 3, 2);
            dueRows(x, "-" + letter, 2, 1, 3);
            x.row(999, 19, 49, 20000, 99);
            dueRows(x, "+" + letter, 1, 3, 2, 4);
            dueRows(x, "-" + letter, 2, 4, 1, 3);
            x.row(1, 1, 1, 1, 1);
            dueRows(x, "+" + letter, 1, 3, 5, 2, 4);
            dueRows(x, "-" + letter, 2, 4, 5, 1, 3);
            dueRows(x, letter + "=0-" + letter, 1, 3);
        }
    }

    private static void groups() {
        TraceQuestions x = Check.fourRows();
        check.dueAsk(x, 0, "#p", 3);
        check.dueFound(x, 0, 3, 4, 49);
        check.dueFound(x, 1, 2, 1, 1);
        check.dueAsk(x, 0, "#d", 3);
        check.dueFound(x, 0, 90, 100, 20000);
        check.dueFound(x, 1, 2, 1, 1);
        check.dueAsk(x, 0, "#k", 3);
        check.dueFound(x, 0, 2, 3, 19);
        check.dueFound(x, 1, 2, 1, 1);
        check.dueAsk(x, 0, "i=7#o", 1);
        check.dueFound(x, 0, 5);
        check.dueFound(x, 1, 2);
        check.dueAsk(x, 0, "i=1#i", 0);
        check.dueFound(x, 0);
        check.dueAsk(x, 0, "!i=8#d", 3);
        check.dueFound(x, 0, 90, 100, 20000);
        check.dueFound(x, 1, 1, 1, 1);
    }

    private static void groupsAtTheEdges() {
        for (int field = 0; field < 5; field++) {
            TraceQuestions x = Check.leastAndGreatest();
            String tail = "#" + Check.letter(field);
            int greatest = Check.greatest(field);
            check.dueAsk(x, 0, tail, 2);
            check.dueFound(x, 0, 0, greatest);
            check.dueFound(x, 1, 1, 1);
            check.dueAsk(x, 0, Check.letter(field) + ">0" + tail, 1);
            check.dueFound(x, 0, greatest);
            check.dueFound(x, 1, 1);
            x.row(0, 0, 0, 0, 0);
            x.row(1, 1, 1, 1, 1);
            x.row(0, 0, 0, 0, 0);
            check.dueAsk(x, 0, tail, 3);
            check.dueFound(x, 0, 0, 1, greatest);
            check.dueFound(x, 1, 3, 1, 1);
        }
    }

    private static void groupsOfTheFoundAlone() {
        TraceQuestions x = Check.fourRows();
        check.dueAsk(x, 1, "#i", 2);
        check.dueFound(x, 0, 7, 9);
        check.dueFound(x, 1, 2, 1);
        check.dueAsk(x, 1, "k=2#i", 1);
        check.dueFound(x, 0, 7);
        check.dueFound(x, 1, 1);
        check.dueAsk(x, 2, "k=19#i", 0);
        check.dueFound(x, 0);
        check.dueAsk(x, 3, "#i", 0);
        check.dueFound(x, 0);
    }

    private static void rightsOfTheAsker() {
        TraceQuestions x = Check.fourRows();
        check.dueAsk(x, 1, "", 3);
        check.dueFound(x, 0, 1, 2, 4);
        check.dueAsk(x, 1, "-d", 3);
        check.dueFound(x, 0, 4, 1, 2);
        check.dueAsk(x, 1, "k=2", 1);
        check.dueFound(x, 0, 1);
        check.dueAsk(x, 2, "#k", 1);
        check.dueFound(x, 0, 2);
        check.dueFound(x, 1, 1);
        check.dueAsk(x, 3, "", 0);
        check.dueAsk(x, 49, "i=7", 0);
    }

    private static void refusals() {
        TraceQuestions x = Check.fourRows();
        check.due("ask(-1)", x.ask(-1), TraceQuestions.UNKNOWN);
        check.due("ask(50)", x.ask(50), TraceQuestions.UNKNOWN);
        check.due("ask of the least", x.ask(Integer.MIN_VALUE), TraceQuestions.UNKNOWN);
        check.due("ask of the greatest", x.ask(Integer.MAX_VALUE), TraceQuestions.UNKNOWN);
        check.due("ask(49)", x.ask(49), 0);
        x.bound(3);
        Check.write(x, "i=");
        check.due("UNKNOWN before a fault", x.ask(50), TraceQuestions.UNKNOWN);
        check.due("a fault before DEAR", x.ask(0), -3);
        Check.write(x, "i=1");
        check.due("UNKNOWN before DEAR", x.ask(50), TraceQuestions.UNKNOWN);
        check.due("DEAR", x.ask(0), TraceQuestions.DEAR);
        x.bound(4);
        check.due("dear no more", x.ask(0), 4);
    }
}
