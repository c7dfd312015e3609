/** Promises 11, 12 and 13. */
public final class KeptTest {
    private static final Check check = new Check("KeptTest");
    private static final int NONE = TraceQuestions.NONE;
    private static final int UNKNOWN = TraceQuestions.UNKNOWN;
    private static final int OUTSIDE = TraceQuestions.OUTSIDE;

    public static void main(String[] args) {
        saveRefused();
        twentyAreKept();
        twentyAndAFault();
        firstWhenSoManyAreOver();
        asOftenAsItHas();
        tickOutside();
        savedTellsTheLatest();
        savedDear();
        savedMasked();
        fieldsOfATextBefore();
        savedGroups();
        aTextOfItsOwn();
        check.end();
    }

    private static int save(TraceQuestions x, int who, long every, String text) {
        Check.write(x, text);
        return x.save(who, every);
    }

    private static void saveRefused() {
        TraceQuestions x = Check.fourRows();
        check.due("who -1", x.save(-1, 1), UNKNOWN);
        check.due("who 50", x.save(50, 1), UNKNOWN);
        check.due("who 50, every 0", x.save(50, 0), UNKNOWN);
        check.due("every 0", x.save(0, 0), OUTSIDE);
        check.due("every -1", x.save(0, -1), OUTSIDE);
        check.due("every 1001", x.save(0, 1001), OUTSIDE);
        check.due("every the least", x.save(0, Long.MIN_VALUE), OUTSIDE);
        check.due("every the greatest", x.save(0, Long.MAX_VALUE), OUTSIDE);
        check.due("every 1 as an int", x.save(0, (1L << 32) + 1), OUTSIDE);
        Check.write(x, "i=");
        check.due("UNKNOWN before a fault", x.save(50, 1), UNKNOWN);
        check.due("OUTSIDE before a fault", x.save(0, 0), OUTSIDE);
        check.due("the fault", x.save(0, 1), -3);
        check.due("nothing was kept", x.saved(1), UNKNOWN);
        check.due("nothing is asked", x.tick(1000), 0);
        check.due("the first", x.save(49, 1000), 1);
        check.due("the second", x.save(0, 1), 2);
        x.bound(0);
        check.due("a dear one is kept", save(x, 0, 1, "i=1"), 3);
    }

    private static void twentyAreKept() {
        TraceQuestions x = Check.fourRows();
        for (int i = 1; i <= 20; i++) {
            check.due("save " + i, save(x, 0, i, "i=7"), i);
        }
        check.due("the 21st", save(x, 0, 1, "i=8"), TraceQuestions.ROOM);
        check.due("the text is empty", x.ask(0), 4);
        check.due("saved(21)", x.saved(21), UNKNOWN);
        check.due("UNKNOWN before ROOM", x.save(50, 1), UNKNOWN);
        check.due("OUTSIDE before ROOM", x.save(0, 0), OUTSIDE);
        check.due("tick", x.tick(20), 20 + 10 + 6 + 5 + 4 + 3 + 2 + 2 + 2 + 2 + 10);
        for (int i = 1; i <= 20; i++) {
            check.due("saved " + i, x.saved(i), 2);
        }
    }

    private static void twentyAndAFault() {
        TraceQuestions x = Check.fourRows();
        for (int i = 1; i <= 20; i++) {
            save(x, 0, 1, "");
        }
        check.due("a fault before ROOM", save(x, 0, 1, "i=8#"), -5);
        check.due("the text is empty", x.ask(0), 4);
        Check.write(x, "i=8");
        check.due("UNKNOWN", x.save(-1, 1), UNKNOWN);
        check.due("OUTSIDE", x.save(0, 2000), OUTSIDE);
        check.due("the text stays", x.ask(0), 1);
    }

    private static void firstWhenSoManyAreOver() {
        TraceQuestions x = Check.fourRows();
        check.due("tick(7)", x.tick(7), 0);
        save(x, 0, 5, "i=7");
        check.due("never yet", x.saved(1), NONE);
        check.due("tick(7)", x.tick(7), 0);
        check.due("tick(11)", x.tick(11), 0);
        check.due("never yet", x.saved(1), NONE);
        check.due("tick(12)", x.tick(12), 1);
        check.due("saved", x.saved(1), 2);
        check.due("tick(12)", x.tick(12), 0);
        check.due("tick(16)", x.tick(16), 0);
        check.due("tick(17)", x.tick(17), 1);
        check.due("tick(26)", x.tick(26), 1);
        check.due("tick(27)", x.tick(27), 1);
    }

    private static void asOftenAsItHas() {
        TraceQuestions x = Check.fourRows();
        save(x, 0, 1, "");
        save(x, 0, 3, "");
        save(x, 0, 1000, "");
        check.due("tick(10)", x.tick(10), 13);
        check.due("tick(999)", x.tick(999), 989 + 330);
        check.due("saved", x.saved(3), NONE);
        check.due("tick(1000)", x.tick(1000), 2);
        check.due("saved", x.saved(3), 4);
        check.due("tick(2000)", x.tick(2000), 1000 + 333 + 1);
        TraceQuestions y = new TraceQuestions();
        for (int i = 0; i < 20; i++) {
            save(y, 0, 1, "");
        }
        for (int i = 1; i <= 450; i++) {
            check.due("tick", y.tick(i * 1000L), 20000);
        }
    }

    private static void tickOutside() {
        TraceQuestions x = Check.fourRows();
        save(x, 0, 10, "");
        check.due("tick(50)", x.tick(50), 5);
        check.due("tick(49)", x.tick(49), OUTSIDE);
        check.due("tick(1051)", x.tick(1051), OUTSIDE);
        check.due("tick(-1)", x.tick(-1), OUTSIDE);
        check.due("tick of the least", x.tick(Long.MIN_VALUE), OUTSIDE);
        check.due("tick of the greatest", x.tick(Long.MAX_VALUE), OUTSIDE);
        check.due("tick of 50 as an int", x.tick((1L << 32) + 50), OUTSIDE);
        check.due("tick(59)", x.tick(59), 0);
        check.due("tick(60)", x.tick(60), 1);
        check.due("tick(1060)", x.tick(1060), 100);
    }

    private static void savedTellsTheLatest() {
        TraceQuestions x = Check.fourRows();
        check.due("saved(0)", x.saved(0), UNKNOWN);
        check.due("saved(1)", x.saved(1), UNKNOWN);
        save(x, 0, 2, "i=7");
        save(x, 2, 3, "");
        check.due("saved(0)", x.saved(0), UNKNOWN);
        check.due("saved(-1)", x.saved(-1), UNKNOWN);
        check.due("saved(3)", x.saved(3), UNKNOWN);
        check.due("saved of the least", x.saved(Integer.MIN_VALUE), UNKNOWN);
        check.due("saved of the greatest", x.saved(Integer.MAX_VALUE), UNKNOWN);
        check.due("tick(2)", x.tick(2), 1);
        check.due("saved(1)", x.saved(1), 2);
        check.due("saved(2)", x.saved(2), NONE);
        x.row(7, 2, 1, 1, 6);
        check.due("not asked since", x.saved(1), 2);
        check.due("tick(3)", x.tick(3), 1);
        check.due("not asked since", x.saved(1), 2);
        check.due("saved(2)", x.saved(2), 2);
        x.right(2, -1, -1);
        check.due("tick(6)", x.tick(6), 3);
        check.due("saved(1)", x.saved(1), 3);
        check.due("rights of then", x.saved(2), 5);
    }

    private static void savedDear() {
        TraceQuestions x = Check.fourRows();
        save(x, 0, 10, "i=7");
        x.bound(7);
        check.due("tick(10)", x.tick(10), 1);
        check.due("dear", x.saved(1), NONE);
        x.bound(8);
        check.due("dear then", x.saved(1), NONE);
        check.due("tick(20)", x.tick(20), 1);
        check.due("not dear", x.saved(1), 2);
        x.bound(0);
        check.due("not dear then", x.saved(1), 2);
        x.row(7, 1, 1, 1, 1);
        x.bound(9);
        check.due("tick(30)", x.tick(30), 1);
        check.due("dear again", x.saved(1), NONE);
    }

    private static void savedMasked() {
        String[] texts = {"i=7", "k=2#p", "+d", "-o", "!(i=9|o=6)"};
        int[][] fields = {{0}, {1, 2}, {3}, {4}, {0, 4}};
        int[] counts = {2, 2, 4, 4, 2};
        for (int t = 0; t < texts.length; t++) {
            TraceQuestions x = Check.fourRows();
            save(x, 0, 1, texts[t]);
            for (int field = 0; field < 5; field++) {
                boolean named = false;
                for (int f : fields[t]) {
                    named |= f == field;
                }
                x.masked(field, true);
                check.due("tick", x.tick(2 * field + 1), 1);
                check.due("saved of " + texts[t], x.saved(1), named ? NONE : counts[t]);
                x.masked(field, false);
                check.due("masked then", x.saved(1), named ? NONE : counts[t]);
                check.due("tick", x.tick(2 * field + 2), 1);
                check.due("saved of " + texts[t], x.saved(1), counts[t]);
                x.masked(field, true);
                check.due("not masked then", x.saved(1), counts[t]);
                x.masked(field, false);
            }
        }
    }

    /** The fields of a text that was read before, with a fault or not, are not a kept question's. */
    private static void fieldsOfATextBefore() {
        TraceQuestions x = Check.fourRows();
        check.dueAsk(x, 0, "k=2&o=1&", -9);
        check.due("save with a fault", save(x, 0, 1, "p=1+x"), -5);
        check.due("save", save(x, 0, 1, "i=7"), 1);
        check.dueAsk(x, 0, "k=2", 2);
        check.dueAsk(x, 0, "d=100", 1);
        check.due("save", save(x, 0, 1, "i=8"), 2);
        for (int field = 1; field < 5; field++) {
            x.masked(field, true);
        }
        check.due("tick", x.tick(1), 2);
        check.due("saved(1)", x.saved(1), 2);
        check.due("saved(2)", x.saved(2), 1);
    }

    private static void savedGroups() {
        TraceQuestions x = Check.fourRows();
        save(x, 0, 1, "#i");
        save(x, 1, 1, "#k");
        save(x, 0, 1, "i=1#k");
        check.due("tick", x.tick(1), 3);
        check.due("groups", x.saved(1), 3);
        check.due("groups", x.saved(2), 3);
        check.due("no groups", x.saved(3), 0);
    }

    /** A kept question stays as it was, whatever is asked and kept after it. */
    private static void aTextOfItsOwn() {
        TraceQuestions x = Check.fourRows();
        save(x, 0, 1, "i=7");
        check.dueAsk(x, 1, "k=19", 1);
        save(x, 2, 1, "k=2");
        check.dueAsk(x, 0, "o=99#i", 1);
        check.dueAsk(x, 0, "((", -3);
        save(x, 1, 1, "-d");
        check.dueAsk(x, 3, "+d", 0);
        check.due("tick", x.tick(1), 3);
        check.due("saved(1)", x.saved(1), 2);
        check.due("saved(2)", x.saved(2), 1);
        check.due("saved(3)", x.saved(3), 3);
        check.dueAsk(x, 0, "k=2-i", 2);
        Check.write(x, "i=9&i");
        check.due("a fault", x.save(1, 1), -6);
        check.due("page", x.page(0, 4, 0), 3);
        check.due("tick", x.tick(2), 3);
        check.due("saved(1)", x.saved(1), 2);
        check.due("saved(2)", x.saved(2), 1);
        check.due("saved(3)", x.saved(3), 3);
    }
}
