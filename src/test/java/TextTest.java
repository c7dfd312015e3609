/** What ask() and save() say of a text: its faults, and when it is empty. */
public final class TextTest {
    private static final Check check = new Check("TextTest");

    public static void main(String[] args) {
        whenTheTextIsEmpty();
        faultsOfSigns();
        faultsOfNumbers();
        faultsOfTails();
        faultsOfBrackets();
        nestedTwenty();
        turnsHoldUpToTheirEnd();
        fortyTests();
        faultsOfMasks();
        theFirstFault();
        check.end();
    }

    private static TraceQuestions one() {
        return Check.rows(1);
    }

    private static void dueFault(String text, int place) {
        TraceQuestions x = one();
        check.dueAsk(x, 0, text, -1 - place);
        Check.write(x, text);
        check.due("save of " + text, x.save(0, 1), -1 - place);
        check.due("text after it", x.ask(0), 1);
    }

    private static void dueFine(String text) {
        TraceQuestions x = one();
        Check.write(x, text);
        check.due("save of " + text, x.save(0, 1), 1);
        Check.write(x, text);
        check.due("ask without fault of " + text, x.ask(0) >= 0 ? 1 : 0, 1);
    }

    private static void whenTheTextIsEmpty() {
        TraceQuestions x = one();
        Check.write(x, "i=5");
        check.due("ask of none such", x.ask(50), TraceQuestions.UNKNOWN);
        check.due("ask of none such", x.ask(-1), TraceQuestions.UNKNOWN);
        check.due("save of none such", x.save(50, 1), TraceQuestions.UNKNOWN);
        check.due("save of none such", x.save(-1, 0), TraceQuestions.UNKNOWN);
        check.due("save every 0", x.save(0, 0), TraceQuestions.OUTSIDE);
        check.due("save every 1001", x.save(0, 1001), TraceQuestions.OUTSIDE);
        check.due("ask of i=5", x.ask(0), 0);
        check.due("ask of nothing", x.ask(0), 1);
        check.dueAsk(x, 0, "i=x", -3);
        check.due("ask of nothing after a fault", x.ask(0), 1);
        x.bound(0);
        check.dueAsk(x, 0, "i=5", TraceQuestions.DEAR);
        x.bound(1);
        check.due("ask of nothing after DEAR", x.ask(0), 1);
        x.bound(100);
        Check.write(x, "i=5");
        check.due("save", x.save(0, 1), 1);
        check.due("ask of nothing after save", x.ask(0), 1);
        Check.write(x, "i=");
        check.due("save with a fault", x.save(0, 1), -3);
        check.due("ask of nothing after it", x.ask(0), 1);
        check.dueAsk(x, 0, "i=0", 1);
        Check.write(x, "i=5");
        check.due("found leaves the text", x.found(0, 0), 1);
        check.due("page leaves the text", x.page(0, 1, 0), 1);
        check.due("tick leaves the text", x.tick(3), 3);
        check.due("ask of i=5", x.ask(0), 0);
    }

    private static void faultsOfSigns() {
        dueFine("");
        dueFine("i=1");
        dueFine("k<1&p>1|d=1&o=1");
        dueFault("x", 0);
        dueFault("x=1", 0);
        dueFault("I=1", 0);
        dueFault(" ", 0);
        dueFault("1", 0);
        dueFault("=", 0);
        dueFault("&", 0);
        dueFault("|i=1", 0);
        dueFault("i", 1);
        dueFault("i1", 1);
        dueFault("i!1", 1);
        dueFault("i(", 1);
        dueFault("ii", 1);
        dueFault("i =1", 1);
        dueFault("i=", 2);
        dueFault("i=<", 2);
        dueFault("i>=1", 2);
        dueFault("i=-1", 2);
        dueFault("i=i", 2);
        dueFault("i=1 ", 3);
        dueFault("i=1!", 3);
        dueFault("i=1(", 3);
        dueFault("i=1i", 3);
        dueFault("i=1=", 3);
        dueFault("i=1&", 4);
        dueFault("i=1|", 4);
        dueFault("i=1&&i=1", 4);
        dueFault("i=1||i=1", 4);
        dueFault("i=1|&i=1", 4);
        dueFault("i=1&#i", 4);
        dueFault("!", 1);
        dueFault("!#i", 1);
        dueFault("!1", 1);
        dueFault("!&", 1);
        dueFault("!)", 1);
    }

    private static void faultsOfNumbers() {
        dueFine("i=0");
        dueFine("i=99999");
        dueFine("i=00000");
        dueFault("i=000000", 7);
        dueFault("i=123456", 7);
        dueFault("i=1234567", 7);
        dueFault("(i=123456)", 8);
        dueFault("i=12345&k=123456", 15);
        TraceQuestions x = one();
        check.dueAsk(x, 0, "k=00001", 1);
        check.dueAsk(x, 0, "k<99999", 1);
        check.dueAsk(x, 0, "k>99999", 0);
        check.dueAsk(x, 0, "k=10", 0);
    }

    private static void faultsOfTails() {
        for (String sign : new String[] {"#", "+", "-"}) {
            for (String letter : Check.LETTERS.split("")) {
                dueFine(sign + letter);
                dueFine("i=1" + sign + letter);
                dueFine("(i=1)" + sign + letter);
            }
            dueFault(sign, 1);
            dueFault(sign + "x", 1);
            dueFault(sign + "1", 1);
            dueFault(sign + "!", 1);
            dueFault(sign + sign + "i", 1);
            dueFault(sign + "ii", 2);
            dueFault(sign + "i=1", 2);
            dueFault(sign + "i" + sign, 2);
            dueFault(sign + "i ", 2);
            dueFault(sign + "i&i=1", 2);
            dueFault("i=1" + sign, 4);
            dueFault("i=1" + sign + "i+d", 5);
            dueFault("(i=1" + sign + "i)", 4);
            dueFault("!(i=1" + sign + "i)", 5);
            dueFault("i" + sign + "i", 1);
            dueFault("i=" + sign + "i", 2);
        }
    }

    private static void faultsOfBrackets() {
        dueFine("(i=1)");
        dueFine("((i=1))");
        dueFine("(i=1|k=1)&(p=1)");
        dueFine("!(!i=1)");
        dueFault(")", 0);
        dueFault("()", 1);
        dueFault("(", 1);
        dueFault("(#i)", 1);
        dueFault("(i=1", 4);
        dueFault("((i=1)", 6);
        dueFault("i=1)", 3);
        dueFault("(i=1))", 5);
        dueFault("(i=1)i=1", 5);
        dueFault("(i=1)1", 5);
        dueFault("(i=1)!", 5);
        dueFault("(i=1)(", 5);
        dueFault("(i=1&)", 5);
        dueFault("(i=1|)", 5);
        dueFault("(i=)", 3);
        dueFault("(i)", 2);
        dueFault("(!)", 2);
        dueFault("!(i=1", 5);
        dueFault("!i=1)", 4);
    }

    private static void nestedTwenty() {
        dueFine(Check.times(20, "!") + "i=1");
        dueFine(Check.times(20, "(") + "i=1" + Check.times(20, ")"));
        dueFine(Check.times(10, "!(") + "i=1" + Check.times(10, ")"));
        dueFine(Check.times(10, "(!") + "i=1" + Check.times(10, ")"));
        dueFault(Check.times(21, "!") + "i=1", 20);
        dueFault(Check.times(21, "(") + "i=1" + Check.times(21, ")"), 20);
        dueFault(Check.times(10, "!(") + "!i=1" + Check.times(10, ")"), 20);
        dueFault(Check.times(10, "!(") + "(i=1" + Check.times(11, ")"), 20);
        dueFault(Check.times(20, "(") + "!i=1" + Check.times(20, ")"), 20);
        dueFault(Check.times(20, "!") + "(i=1)", 20);
        dueFault(Check.times(20, "(") + "i=1" + Check.times(19, ")"), 42);
        dueFault(Check.times(20, "(") + "i=1" + Check.times(21, ")"), 43);
    }

    private static void turnsHoldUpToTheirEnd() {
        String twenty = Check.times(20, "!") + "i=1";
        dueFine(twenty + "&" + twenty);
        dueFine(twenty + "|" + twenty);
        dueFine("!i=1&" + twenty);
        dueFine("!(i=1)&" + twenty);
        dueFine("(" + Check.times(19, "!") + "i=1|" + Check.times(19, "!") + "i=1)&" + twenty);
        dueFine("!!!(" + Check.times(16, "!") + "i=1&" + Check.times(16, "!") + "i=1)");
        dueFine("!!!((!!i=1)&(!i=1)|" + Check.times(16, "(") + "i=1" + Check.times(16, ")") + ")");
        dueFault("!!!(" + Check.times(17, "!") + "i=1)", 20);
        dueFault("!!!(i=1&" + Check.times(17, "!") + "i=1)", 24);
        dueFault("!!!(!!(i=1)|(!i=1)&" + Check.times(17, "(") + "i=1)", 35);
        dueFault("(i=1)&" + Check.times(21, "!") + "i=1", 26);
    }

    private static void fortyTests() {
        String forty = Check.times(39, "i=1|") + "i=1";
        dueFine(forty);
        dueFault(forty + "|i=1", 160);
        dueFault(forty + "&!(i=1)", 162);
        dueFault(forty + "|x", 160);
        dueFault("(" + forty + "|i=1", 161);
        dueFault(forty + "|", 160);
        dueFine(forty + "#i");
        dueFine(forty + "+i");
    }

    private static void faultsOfMasks() {
        for (int field = 0; field < 5; field++) {
            TraceQuestions x = one();
            x.masked(field, true);
            for (int other = 0; other < 5; other++) {
                String letter = "" + Check.letter(other);
                boolean masked = other == field;
                check.dueAsk(x, 0, letter + ">99", masked ? -1 : 0);
                check.dueAsk(x, 0, "!(" + letter + ">99)", masked ? -3 : 1);
                check.dueAsk(x, 0, "#" + letter, masked ? -2 : 1);
                check.dueAsk(x, 0, "+" + letter, masked ? -2 : 1);
                check.dueAsk(x, 0, "-" + letter, masked ? -2 : 1);
                Check.write(x, "-" + letter);
                check.due("save", x.save(0, 1), masked ? -2 : other + (other > field ? 0 : 1));
            }
            x.masked(field, false);
            check.dueAsk(x, 0, "+" + Check.letter(field), 1);
        }
    }

    private static void theFirstFault() {
        TraceQuestions x = one();
        x.masked(2, true);
        check.dueAsk(x, 0, "i=1&p=1&", -5);
        check.dueAsk(x, 0, "i=&p=1", -3);
        check.dueAsk(x, 0, "ip", -2);
        check.dueAsk(x, 0, "i=1#p", -5);
        check.dueAsk(x, 0, Check.times(21, "(") + "p=1", -21);
        check.dueAsk(x, 0, Check.times(20, "(") + "p=1", -21);
        check.dueAsk(x, 0, Check.times(40, "i=1|") + "p=1", -161);
    }
}
