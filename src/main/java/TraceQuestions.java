/**
 * Questions over events of items, in a small language: conditions, rows in an order, groups
 * counted; what an asker may see, fields that are masked, costs with a bound, pages as of a
 * moment, questions that are kept and asked again by a clock.
 */
public final class TraceQuestions {
    public static final int NONE = -1;
    public static final int UNKNOWN = -1000001, OUTSIDE = -1000002, DEAR = -1000003, ROOM = -1000004;

    private static final int ROWS_MOST = 300, RIGHTS_MOST = 100, SIGNS_MOST = 200, KEPT_MOST = 20;
    private static final int TESTS_MOST = 40, NESTED_MOST = 20, FIGURES_MOST = 5;
    private static final int ITEMS = 1000, KINDS = 20, PLACES = 50, DAYS = 20001, OWNERS = 100;
    private static final int ASKERS = 50, ON_A_PAGE = 10, EVERY_MOST = 1000, TICK_MOST = 1000;
    private static final int BOUND_FIRST = 100000, BOUND_MOST = 1000000;
    private static final int ANY = -1;
    private static final int FIELDS = 5, ITEM = 0, KIND = 1, PLACE = 2, DAY = 3, OWNER = 4;

    private final Rows rows = new Rows();
    private final Rights rights = new Rights();
    private final Reader reader = new Reader();
    private final Judge judge = new Judge();
    private final char[] text = new char[SIGNS_MOST];
    private int signs = 0;
    private int maskedFields = 0;
    private int costBound = BOUND_FIRST;
    private long latestCost = 0;
    private Question answered = new Question();
    private boolean anyAnswered = false;
    private final Found latestFound = new Found();
    // Pages and kept questions look here, so that found() still tells of the latest ask().
    private final Found passingFound = new Found();
    private final Kept[] keptQuestions = new Kept[KEPT_MOST];
    private int keptCount = 0;
    private long time = 0;

    public TraceQuestions() {
    }

    public int row(int item, int kind, int place, long day, int owner) {
        if (!isBelow(item, ITEMS) || !isBelow(kind, KINDS) || !isBelow(place, PLACES)
                || !isBelow(day, DAYS) || !isBelow(owner, OWNERS)) {
            return OUTSIDE;
        }
        if (rows.count() >= ROWS_MOST) {
            return ROOM;
        }
        return rows.add(item, kind, place, (int) day, owner);
    }

    public void sign(int c) {
        if (c >= 32 && c <= 126 && signs >= 0 && signs < text.length) {
            text[signs] = (char) c;
            signs++;
        }
    }

    public int ask(int who) {
        if (!isBelow(who, ASKERS)) {
            return UNKNOWN;
        }
        int fault = readText(who);
        if (fault != NONE) {
            return -1 - fault;
        }
        Question question = reader.draft();
        latestCost = costOf(question);
        if (latestCost > costBound) {
            return DEAR;
        }
        search(question, rows.count(), latestFound);
        reader.writeNextInto(answered);
        answered = question;
        anyAnswered = true;
        return latestFound.count();
    }

    public long found(int i, int what) {
        if (!isBelow(i, latestFound.count())) {
            return NONE;
        }
        if (what == 0) {
            return latestFound.first(i);
        }
        if (answered.tail() == Question.GROUPS) {
            return what == 1 ? latestFound.howMany(i) : NONE;
        }
        int field = what - 1;
        if (!isBelow(field, FIELDS) || isMasked(field)) {
            return NONE;
        }
        return rows.value(latestFound.first(i), field);
    }

    public int page(int n, long moment, int i) {
        if (n < 0 || moment < 0 || moment > rows.count() || !isBelow(i, ON_A_PAGE)) {
            return OUTSIDE;
        }
        if (!anyAnswered) {
            return NONE;
        }
        search(answered, (int) moment, passingFound);
        long place = (long) n * ON_A_PAGE + i;
        return place < passingFound.count() ? passingFound.first((int) place) : NONE;
    }

    public int right(int who, int owner, int kind) {
        if (!isBelow(who, ASKERS)) {
            return UNKNOWN;
        }
        if (owner != ANY && !isBelow(owner, OWNERS) || kind != ANY && !isBelow(kind, KINDS)) {
            return OUTSIDE;
        }
        // A right that is held already needs no room.
        if (!rights.holds(who, owner, kind)) {
            if (rights.count() >= RIGHTS_MOST) {
                return ROOM;
            }
            rights.add(who, owner, kind);
        }
        return rights.countOf(who);
    }

    public int masked(int field, boolean on) {
        if (!isBelow(field, FIELDS)) {
            return OUTSIDE;
        }
        if (isMasked(field) == on) {
            return 0;
        }
        maskedFields ^= 1 << field;
        return 1;
    }

    public long cost() {
        return latestCost;
    }

    public int bound(long steps) {
        if (steps < 0 || steps > BOUND_MOST) {
            return OUTSIDE;
        }
        int before = costBound;
        costBound = (int) steps;
        return before;
    }

    public int save(int who, long every) {
        if (!isBelow(who, ASKERS)) {
            return UNKNOWN;
        }
        if (every < 1 || every > EVERY_MOST) {
            return OUTSIDE;
        }
        int fault = readText(who);
        if (fault != NONE) {
            return -1 - fault;
        }
        if (!isBelow(keptCount, keptQuestions.length)) {
            return ROOM;
        }
        keptQuestions[keptCount] = new Kept(reader.draft(), every, time + every);
        keptCount++;
        reader.writeNextInto(new Question());
        return keptCount;
    }

    public int tick(long t) {
        if (t < time || t - time > TICK_MOST) {
            return OUTSIDE;
        }
        time = t;
        int asked = 0;
        for (int k = 0; k < keptCount && k < keptQuestions.length; k++) {
            asked += askKept(keptQuestions[k]);
        }
        return asked;
    }

    public int saved(int question) {
        if (question < 1 || question > keptCount || question > keptQuestions.length) {
            return UNKNOWN;
        }
        Kept kept = keptQuestions[question - 1];
        return kept == null ? UNKNOWN : kept.latestCount();
    }

    public int scan(int who) {
        if (!isBelow(who, ASKERS)) {
            return UNKNOWN;
        }
        int seen = 0;
        for (int number = 1; number <= rows.count(); number++) {
            if (sees(who, number)) {
                seen++;
            }
        }
        return seen;
    }

    private static boolean isBelow(long number, int end) {
        return number >= 0 && number < end;
    }

    private boolean isMasked(int field) {
        return (maskedFields >> field & 1) != 0;
    }

    private boolean sees(int who, int number) {
        return rights.letSee(who, rows.value(number, OWNER), rows.value(number, KIND));
    }

    /** Makes the text the reader's draft and empties it; the place of its first fault, or NONE. */
    private int readText(int who) {
        int fault = reader.firstFault(text, signs, maskedFields);
        reader.draft().setAsker(who);
        signs = 0;
        return fault;
    }

    private long costOf(Question question) {
        return (question.tests() + 1L) * rows.count();
    }

    /** Puts what a question finds among the first so many rows into the list. */
    private void search(Question question, int moment, Found list) {
        list.clear();
        for (int place = 0; place < rows.count(); place++) {
            int number = rows.numberAt(question.tail(), question.tailField(), place);
            if (number <= moment && sees(question.asker(), number)
                    && judge.isTrue(question, rows, number)) {
                if (question.tail() == Question.GROUPS) {
                    list.addToGroup(rows.value(number, question.tailField()));
                } else {
                    list.add(number);
                }
            }
        }
    }

    /** Asks a kept question if its time has come: how many times it was asked. */
    private int askKept(Kept kept) {
        if (kept == null) {
            return 0;
        }
        int times = kept.passTo(time);
        if (times > 0) {
            // Nothing changes within a tick, so that the last time finds what every time does.
            kept.setLatestCount(countFound(kept.question()));
        }
        return times;
    }

    private int countFound(Question question) {
        if ((question.fields() & maskedFields) != 0 || costOf(question) > costBound) {
            return NONE;
        }
        search(question, rows.count(), passingFound);
        return passingFound.count();
    }

    /** The rows, and for each field their numbers in both orders, kept so as rows come. */
    private static final class Rows {
        private final int[][] values = new int[FIELDS][ROWS_MOST];
        private final int[][] upward = new int[FIELDS][ROWS_MOST];
        private final int[][] downward = new int[FIELDS][ROWS_MOST];
        private int count = 0;

        int count() {
            return count;
        }

        int add(int item, int kind, int place, int day, int owner) {
            if (count < 0 || count >= ROWS_MOST) {
                return ROOM;
            }
            values[ITEM][count] = item;
            values[KIND][count] = kind;
            values[PLACE][count] = place;
            values[DAY][count] = day;
            values[OWNER][count] = owner;
            count++;
            putInOrders();
            return count;
        }

        int value(int number, int field) {
            if (number < 1 || number > count || number > ROWS_MOST || field < 0 || field >= FIELDS) {
                return NONE;
            }
            return values[field][number - 1];
        }

        /** The number of the row at a place of the order that a question's tail asks for. */
        int numberAt(int tail, int field, int place) {
            if (tail == Question.NO_TAIL || field < 0 || field >= FIELDS
                    || place < 0 || place >= ROWS_MOST) {
                return place + 1;
            }
            return tail == Question.DOWNWARD ? downward[field][place] : upward[field][place];
        }

        /** Puts the newest row into both orders of each field, behind those that are equal. */
        private void putInOrders() {
            for (int field = 0; field < FIELDS; field++) {
                int value = value(count, field);
                insert(upward[field], behindLast(field, value, false));
                insert(downward[field], behindLast(field, value, true));
            }
        }

        /** The place behind the last row that an order has before such a value. */
        private int behindLast(int field, int value, boolean down) {
            int tail = down ? Question.DOWNWARD : Question.UPWARD;
            for (int place = count - 1; place > 0; place--) {
                int other = value(numberAt(tail, field, place - 1), field);
                if (down ? other >= value : other <= value) {
                    return place;
                }
            }
            return 0;
        }

        private void insert(int[] order, int place) {
            for (int p = count - 1; p > place && p > 0 && p < order.length; p--) {
                order[p] = order[p - 1];
            }
            if (place >= 0 && place < order.length) {
                order[place] = count;
            }
        }
    }

    /** Who may see which kinds of which owners. */
    private static final class Rights {
        // Of an asker: for any owner (place 0) and each owner (behind it) a bit for any kind
        // (bit 0) and for each kind (above it).
        private final int[][] kinds = new int[ASKERS][OWNERS + 1];
        private final int[] counts = new int[ASKERS];
        private int count = 0;

        int count() {
            return count;
        }

        int countOf(int who) {
            return who >= 0 && who < ASKERS ? counts[who] : 0;
        }

        boolean holds(int who, int owner, int kind) {
            return (kindsOf(who, owner) >> kind + 1 & 1) != 0;
        }

        void add(int who, int owner, int kind) {
            if (who < 0 || who >= ASKERS || owner < ANY || owner >= OWNERS) {
                return;
            }
            kinds[who][owner + 1] |= 1 << kind + 1;
            counts[who]++;
            count++;
        }

        boolean letSee(int who, int owner, int kind) {
            int seen = kindsOf(who, ANY) | kindsOf(who, owner);
            return (seen & (1 | 1 << kind + 1)) != 0;
        }

        private int kindsOf(int who, int owner) {
            if (who < 0 || who >= ASKERS || owner < ANY || owner >= OWNERS) {
                return 0;
            }
            return kinds[who][owner + 1];
        }
    }

    /** A question as it was read: an asker, the steps of its condition, and what follows it. */
    private static final class Question {
        static final int TURN = 1, OPEN = 2, CLOSE = 3, NEXT_PART = 4, TEST = 5;
        static final int NO_TAIL = 0, GROUPS = 1, UPWARD = 2, DOWNWARD = 3;

        private final int[] steps = new int[SIGNS_MOST];
        private final int[] testFields = new int[TESTS_MOST];
        private final char[] testRelations = new char[TESTS_MOST];
        private final int[] testNumbers = new int[TESTS_MOST];
        private int stepCount = 0;
        private int testCount = 0;
        private int fields = 0;
        private int tail = NO_TAIL;
        private int tailField = 0;
        private int asker = 0;

        void clear() {
            stepCount = 0;
            testCount = 0;
            fields = 0;
            tail = NO_TAIL;
            tailField = 0;
        }

        int asker() {
            return asker;
        }

        void setAsker(int who) {
            asker = who;
        }

        /** A bit for each field whose letter stands in the question. */
        int fields() {
            return fields;
        }

        int tests() {
            return testCount;
        }

        int tail() {
            return tail;
        }

        int tailField() {
            return tailField;
        }

        void setTail(int kindOfTail) {
            tail = kindOfTail;
        }

        void setTailField(int field) {
            tailField = field;
            fields |= 1 << field;
        }

        void addStep(int step) {
            if (stepCount >= 0 && stepCount < steps.length) {
                steps[stepCount] = step;
                stepCount++;
            }
        }

        void addTest(int field, char relation, int number) {
            if (testCount >= 0 && testCount < TESTS_MOST) {
                testFields[testCount] = field;
                testRelations[testCount] = relation;
                testNumbers[testCount] = number;
                testCount++;
                fields |= 1 << field;
                addStep(TEST);
            }
        }

        int stepCount() {
            return stepCount;
        }

        int step(int s) {
            return s >= 0 && s < steps.length ? steps[s] : 0;
        }

        boolean isTestTrue(int test, Rows rows, int number) {
            if (test < 0 || test >= TESTS_MOST) {
                return false;
            }
            int value = rows.value(number, testFields[test]);
            switch (testRelations[test]) {
                case '=':
                    return value == testNumbers[test];
                case '<':
                    return value < testNumbers[test];
                default:
                    return value > testNumbers[test];
            }
        }
    }

    /** Reads a text sign by sign into a question, its draft. */
    private static final class Reader {
        // What may come next.
        private static final int START = 0, TEST = 1, RELATION = 2, FIRST_FIGURE = 3, FIGURE = 4,
                BEHIND_TEST = 5, TAIL_FIELD = 6, END = 7;

        private Question draft = new Question();
        private int maskedFields = 0;
        private int state = START;
        private int field = 0;
        private char relation = '=';
        private int number = 0;
        private int figures = 0;
        // How many ( and ! hold here, and of them the ! that hold for the next test alone.
        private int nested = 0;
        private int turns = 0;
        // For each ( that is open, the ! that hold up to its end.
        private final int[] turnsBefore = new int[NESTED_MOST];
        private int open = 0;

        Question draft() {
            return draft;
        }

        void writeNextInto(Question question) {
            draft = question;
        }

        int firstFault(char[] text, int length, int masked) {
            begin(masked);
            for (int place = 0; place < length && place < text.length; place++) {
                if (!takes(text[place])) {
                    return place;
                }
            }
            return takesEnd() ? NONE : length;
        }

        private void begin(int masked) {
            draft.clear();
            maskedFields = masked;
            state = START;
            nested = 0;
            turns = 0;
            open = 0;
        }

        private boolean takes(char c) {
            switch (state) {
                case START:
                    return takesTail(c) || takesTest(c);
                case TEST:
                    return takesTest(c);
                case RELATION:
                    return takesRelation(c);
                case FIRST_FIGURE:
                    return takesFigure(c);
                case FIGURE:
                    if (takesFigure(c)) {
                        return true;
                    }
                    endFieldTest();
                    return takesBehindTest(c);
                case BEHIND_TEST:
                    return takesBehindTest(c);
                case TAIL_FIELD:
                    return takesTailField(c);
                default:
                    return false;
            }
        }

        private boolean takesEnd() {
            if (state == FIGURE) {
                endFieldTest();
            }
            return state == START || state == END || state == BEHIND_TEST && nested == 0;
        }

        private boolean takesTest(char c) {
            if (c == '!') {
                return takesTurn();
            }
            return c == '(' ? takesOpen() : takesTestField(c);
        }

        private boolean takesTurn() {
            if (nested >= NESTED_MOST) {
                return false;
            }
            nested++;
            turns++;
            draft.addStep(Question.TURN);
            state = TEST;
            return true;
        }

        private boolean takesOpen() {
            if (nested >= NESTED_MOST || open < 0 || open >= turnsBefore.length) {
                return false;
            }
            turnsBefore[open] = turns;
            open++;
            nested++;
            turns = 0;
            draft.addStep(Question.OPEN);
            state = TEST;
            return true;
        }

        private boolean takesClose() {
            if (open < 1 || open > turnsBefore.length) {
                return false;
            }
            open--;
            nested--;
            turns = turnsBefore[open];
            draft.addStep(Question.CLOSE);
            endTest();
            return true;
        }

        private boolean takesTestField(char c) {
            int named = fieldOf(c);
            if (!isOpenField(named) || draft.tests() >= TESTS_MOST) {
                return false;
            }
            field = named;
            state = RELATION;
            return true;
        }

        private boolean takesRelation(char c) {
            if (c != '=' && c != '<' && c != '>') {
                return false;
            }
            relation = c;
            number = 0;
            figures = 0;
            state = FIRST_FIGURE;
            return true;
        }

        private boolean takesFigure(char c) {
            if (c < '0' || c > '9' || figures >= FIGURES_MOST) {
                return false;
            }
            number = number * 10 + (c - '0');
            figures++;
            state = FIGURE;
            return true;
        }

        private boolean takesBehindTest(char c) {
            if (c == ')') {
                return takesClose();
            }
            if (c == '&' || c == '|') {
                if (c == '|') {
                    draft.addStep(Question.NEXT_PART);
                }
                state = TEST;
                return true;
            }
            return nested == 0 && takesTail(c);
        }

        private boolean takesTail(char c) {
            int tail = tailOf(c);
            if (tail == Question.NO_TAIL) {
                return false;
            }
            draft.setTail(tail);
            state = TAIL_FIELD;
            return true;
        }

        private boolean takesTailField(char c) {
            int named = fieldOf(c);
            if (!isOpenField(named)) {
                return false;
            }
            draft.setTailField(named);
            state = END;
            return true;
        }

        private void endFieldTest() {
            draft.addTest(field, relation, number);
            endTest();
        }

        private void endTest() {
            nested -= turns;
            turns = 0;
            state = BEHIND_TEST;
        }

        private boolean isOpenField(int named) {
            return named != NONE && (maskedFields >> named & 1) == 0;
        }

        private static int fieldOf(char c) {
            switch (c) {
                case 'i':
                    return ITEM;
                case 'k':
                    return KIND;
                case 'p':
                    return PLACE;
                case 'd':
                    return DAY;
                case 'o':
                    return OWNER;
                default:
                    return NONE;
            }
        }

        private static int tailOf(char c) {
            switch (c) {
                case '#':
                    return Question.GROUPS;
                case '+':
                    return Question.UPWARD;
                case '-':
                    return Question.DOWNWARD;
                default:
                    return Question.NO_TAIL;
            }
        }
    }

    /** Goes through the steps of a condition for a row. */
    private static final class Judge {
        // A bit for the whole condition and one for each ( that is open: level is the innermost.
        private int level = 1;
        // There: a part before is true; this part's tests so far are; the next is turned by a !.
        private int partsTrue = 0;
        private int testsTrue = 1;
        private int turned = 0;

        boolean isTrue(Question question, Rows rows, int number) {
            level = 1;
            beginLevel();
            int test = 0;
            for (int s = 0; s < question.stepCount(); s++) {
                switch (question.step(s)) {
                    case Question.TURN:
                        turned ^= level;
                        break;
                    case Question.OPEN:
                        level <<= 1;
                        beginLevel();
                        break;
                    case Question.CLOSE:
                        endLevel();
                        break;
                    case Question.NEXT_PART:
                        partsTrue |= testsTrue & level;
                        testsTrue |= level;
                        break;
                    default:
                        take(question.isTestTrue(test, rows, number));
                        test++;
                        break;
                }
            }
            return isLevelTrue();
        }

        private void beginLevel() {
            partsTrue &= ~level;
            testsTrue |= level;
            turned &= ~level;
        }

        private void endLevel() {
            boolean inner = isLevelTrue();
            level >>>= 1;
            take(inner);
        }

        private boolean isLevelTrue() {
            return ((partsTrue | testsTrue) & level) != 0;
        }

        private void take(boolean test) {
            boolean isTurned = (turned & level) != 0;
            if (test == isTurned) {
                testsTrue &= ~level;
            }
            turned &= ~level;
        }
    }

    /** What a question found: the numbers of rows, or the values of groups with their counts. */
    private static final class Found {
        private final int[] first = new int[ROWS_MOST];
        private final int[] howMany = new int[ROWS_MOST];
        private int count = 0;

        int count() {
            return count;
        }

        void clear() {
            count = 0;
        }

        void add(int numberOrValue) {
            if (count >= 0 && count < ROWS_MOST) {
                first[count] = numberOrValue;
                howMany[count] = 1;
                count++;
            }
        }

        /** Counts a row into the last group, or a new one: values come from the least on. */
        void addToGroup(int value) {
            int last = count - 1;
            if (last >= 0 && last < ROWS_MOST && first[last] == value) {
                howMany[last]++;
            } else {
                add(value);
            }
        }

        int first(int i) {
            return i >= 0 && i < ROWS_MOST ? first[i] : NONE;
        }

        int howMany(int i) {
            return i >= 0 && i < ROWS_MOST ? howMany[i] : NONE;
        }
    }

    /** A question that is kept, and when it is asked next. */
    private static final class Kept {
        private final Question question;
        private final long every;
        private long next;
        private int latestCount = NONE;

        Kept(Question question, long every, long next) {
            this.question = question;
            this.every = every;
            this.next = next;
        }

        Question question() {
            return question;
        }

        /** How many were found when it was asked latest, or NONE. */
        int latestCount() {
            return latestCount;
        }

        void setLatestCount(int count) {
            latestCount = count;
        }

        /** How many times it is to be asked up to then; they are behind it from here on. */
        int passTo(long t) {
            if (every < 1 || t < next) {
                return 0;
            }
            long times = (t - next) / every + 1;
            next += times * every;
            return (int) times;
        }
    }
}
