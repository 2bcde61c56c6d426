import java.util.ArrayList;

/**
 * Rulebooks: rules that come into a row, are gone through for a subject, and decide; with the
 * actions, activities, scenes and phrases that stand around them. DOC.md says what each call does.
 */
public final class RuleBooks {
    public static final int BAD = -1, NO = -2, FULL = -3, NONE = -4, TWO = -5;

    private static final int MOST_KINDS = 20;
    private static final int MOST_SUBJECTS = 20;
    private static final int MOST_BOOKS = 12;
    private static final int MOST_RULES = 60;
    private static final int MOST_CONDITIONS = 4;
    private static final int MOST_ACTIONS = 8;
    private static final int MOST_ACTIVITIES = 6;
    private static final int MOST_OPEN = 4;
    private static final int MOST_SCENES = 8;
    private static final int MOST_PHRASES = 40;
    private static final int MOST_LOOKED_AT = 300;
    private static final int MOST_RUNS_WITHIN = 6;

    /** How many values a subject, and how many variables a book has. */
    private static final int SLOTS = 4;
    private static final int GREATEST_OUTCOME = 99;
    private static final int LAST_SECTION = 2;
    private static final int GREATEST_SPECIAL = 9;
    private static final int LAST_NAME = 9;

    private static final int IF_UNDER = 0, IF_VALUE_IS = 1, IF_VALUE_ABOVE = 2, IF_VARIABLE_IS = 3,
            IF_VARIABLE_ABOVE = 4, IF_HAPPENS = 5, IF_APPLIED = 6;
    /** A condition's code is this much more, if it is just the contrary that must be so. */
    private static final int CONTRARY = 10;

    private static final int DOES_NOTHING = 0, DECIDES = 1, ADDS = 2, SETS_VALUE = 3, DIVIDES = 4,
            FOLLOWS = 5, ABIDES = 6, STOPS = 7, SETS_VARIABLE = 8;

    private static final int FIRST = 0, LAST = 1, BEFORE = 2, BEHIND = 3, INSTEAD = 4, UNLISTED = 5;

    private static final int ERR_DIVIDES = 1, ERR_TOO_DEEP = 2, ERR_TOO_MANY = 3;
    /** An erring rule is answered as this less its number. */
    private static final int ERR_ANSWER = -10;

    private static final int STAGES = 6, CARRY_OUT = 3, REPORT = 5;
    /** An action that ended is answered as this for each stage that it came to, and the outcome. */
    private static final int STAGE_ANSWER = 100;
    private static final int PARTS = 3, PART_BEFORE = 0, PART_MIDDLE = 1, PART_AFTER = 2;

    private static final int BEGINNING = 0, END = 1;
    private static final int NEVER = 0, AT_CLOCK = 1, AT_BEGINNING = 2, AT_END = 3, AT_VALUE = 4;

    /** A place that is not there. */
    private static final int NOWHERE = -1;

    private final Kinds kinds = new Kinds();
    private final ArrayList<Subject> subjects = new ArrayList<>();
    private final ArrayList<Book> books = new ArrayList<>();
    private final ArrayList<Rule> rules = new ArrayList<>();
    private final int[][] actions = new int[MOST_ACTIONS][STAGES];
    private int actionCount;
    private final int[][] activities = new int[MOST_ACTIVITIES][PARTS];
    private int activityCount;
    private final int[] openActivities = new int[MOST_OPEN];
    private final int[] openSubjects = new int[MOST_OPEN];
    private int openCount;
    private final Scenes scenes = new Scenes(subjects);
    private int turnBook = NONE;
    private final Phrases phrases = new Phrases(kinds);
    private final Runner runner = new Runner(kinds, books, scenes);

    public RuleBooks() {
    }

    // ---- kinds and subjects

    public int kind(int parent) {
        if (!kinds.has(parent)) {
            return BAD;
        }
        return kinds.add(parent);
    }

    public int under(int kind, int other) {
        if (!kinds.has(kind) || !kinds.has(other)) {
            return BAD;
        }
        return asNumber(kinds.isUnder(kind, other));
    }

    public int subject(int kind) {
        if (!kinds.has(kind)) {
            return BAD;
        }
        if (subjects.size() >= MOST_SUBJECTS) {
            return FULL;
        }
        subjects.add(new Subject(kind));
        return subjects.size() - 1;
    }

    public int set(int subject, int x, int v) {
        Subject changed = subjectAt(subject);
        if (changed == null || !isSlot(x)) {
            return BAD;
        }
        int was = changed.values[x];
        changed.values[x] = v;
        return was;
    }

    public int value(int subject, int x) {
        Subject asked = subjectAt(subject);
        if (asked == null || !isSlot(x)) {
            return BAD;
        }
        return asked.values[x];
    }

    // ---- books and rules

    public int book(int otherwise) {
        if (otherwise < 0 || otherwise > GREATEST_OUTCOME) {
            return BAD;
        }
        if (books.size() >= MOST_BOOKS) {
            return FULL;
        }
        books.add(new Book(otherwise));
        return books.size() - 1;
    }

    public int variable(int book, int x, int v) {
        Book changed = bookAt(book);
        if (changed == null || !isSlot(x)) {
            return BAD;
        }
        changed.firstNumbers[x] = v;
        return 0;
    }

    public int rule(int book, int section, int special) {
        Book owner = bookAt(book);
        if (owner == null || section < 0 || section > LAST_SECTION
                || special < 0 || special > GREATEST_SPECIAL) {
            return BAD;
        }
        if (rules.size() >= MOST_RULES) {
            return FULL;
        }
        Rule made = new Rule(rules.size(), owner, section, special);
        rules.add(made);
        owner.takeRule(made);
        return made.number;
    }

    public int condition(int rule, int code, int x, int y) {
        Rule changed = ruleAt(rule);
        if (changed == null || !isConditionOf(changed, code, x)) {
            return BAD;
        }
        if (changed.conditions.size() >= MOST_CONDITIONS) {
            return FULL;
        }
        changed.conditions.add(new Condition(code, x, y));
        if (code == IF_UNDER) {
            changed.deepSum += kinds.deepOf(x);
        }
        changed.owner.arrangeRow();
        return changed.conditions.size();
    }

    private boolean isConditionOf(Rule rule, int code, int x) {
        switch (code >= CONTRARY ? code - CONTRARY : code) {
            case IF_UNDER:
                return kinds.has(x);
            case IF_VALUE_IS:
            case IF_VALUE_ABOVE:
            case IF_VARIABLE_IS:
            case IF_VARIABLE_ABOVE:
                return isSlot(x);
            case IF_HAPPENS:
                return scenes.has(x);
            case IF_APPLIED:
                Rule asked = ruleAt(x);
                return asked != null && asked.owner == rule.owner;
            default:
                return false;
        }
    }

    public int does(int rule, int code, int x, int y) {
        Rule changed = ruleAt(rule);
        if (changed == null || !isDeed(code, x, y)) {
            return BAD;
        }
        changed.deed = code;
        changed.deedX = x;
        changed.deedY = y;
        return 0;
    }

    private boolean isDeed(int code, int x, int y) {
        switch (code) {
            case DOES_NOTHING:
            case STOPS:
                return true;
            case DECIDES:
                return x >= 1 && x <= GREATEST_OUTCOME;
            case ADDS:
            case SETS_VALUE:
                return isSlot(x);
            case DIVIDES:
            case SETS_VARIABLE:
                return isSlot(x) && isSlot(y);
            case FOLLOWS:
            case ABIDES:
                return bookAt(x) != null;
            default:
                return false;
        }
    }

    public int order(int rule, int how, int other) {
        Rule moved = ruleAt(rule);
        if (moved == null || how < FIRST || how > UNLISTED) {
            return BAD;
        }
        Rule mark = isAboutAnother(how) ? ruleAt(other) : null;
        if (isAboutAnother(how) && (mark == null || mark == moved || mark.owner != moved.owner)) {
            return BAD;
        }
        moved.how = how;
        moved.mark = mark;
        moved.owner.takeOrder(moved);
        return 0;
    }

    public int row(int book, int i) {
        Book asked = bookAt(book);
        if (asked == null) {
            return BAD;
        }
        if (i < 0 || i >= asked.row.size()) {
            return NONE;
        }
        return asked.row.get(i).number;
    }

    // ---- runs

    public int run(int book, int subject) {
        Book gone = bookAt(book);
        Subject whose = subjectAt(subject);
        if (gone == null || whose == null) {
            return BAD;
        }
        return runner.answerOf(gone, whose);
    }

    public int trace(int i, int what) {
        return runner.trace.at(i, what);
    }

    public int erred() {
        return runner.errCode;
    }

    // ---- actions

    public int action(int before, int instead, int check, int carry, int after, int report) {
        int[] stages = {before, instead, check, carry, after, report};
        if (!areBooksOrNone(stages)) {
            return BAD;
        }
        if (actionCount >= MOST_ACTIONS) {
            return FULL;
        }
        System.arraycopy(stages, 0, actions[actionCount], 0, STAGES);
        actionCount++;
        return actionCount - 1;
    }

    public int act(int action, int subject) {
        Subject whose = subjectAt(subject);
        if (action < 0 || action >= actionCount || whose == null) {
            return BAD;
        }
        return runner.answerOfStages(actions[action], whose);
    }

    // ---- activities

    public int activity(int before, int middle, int after) {
        int[] parts = {before, middle, after};
        if (!areBooksOrNone(parts)) {
            return BAD;
        }
        if (activityCount >= MOST_ACTIVITIES) {
            return FULL;
        }
        System.arraycopy(parts, 0, activities[activityCount], 0, PARTS);
        activityCount++;
        return activityCount - 1;
    }

    public int begin(int activity, int subject) {
        if (activity < 0 || activity >= activityCount || subjectAt(subject) == null) {
            return BAD;
        }
        if (openCount >= MOST_OPEN) {
            return FULL;
        }
        int answer = runner.answerOf(bookAt(activities[activity][PART_BEFORE]), subjectAt(subject));
        if (answer > ERR_ANSWER) {
            openActivities[openCount] = activity;
            openSubjects[openCount] = subject;
            openCount++;
        }
        return answer;
    }

    public int middle() {
        if (openCount <= 0) {
            return NO;
        }
        return runner.answerOf(latestPart(PART_MIDDLE), latestSubject());
    }

    public int finish() {
        if (openCount <= 0) {
            return NO;
        }
        int answer = runner.answerOf(latestPart(PART_AFTER), latestSubject());
        openCount--;
        return answer;
    }

    public int abandon() {
        if (openCount <= 0) {
            return NO;
        }
        openCount--;
        return openActivities[openCount];
    }

    private Book latestPart(int part) {
        return bookAt(activities[openActivities[openCount - 1]][part]);
    }

    private Subject latestSubject() {
        return subjectAt(openSubjects[openCount - 1]);
    }

    // ---- scenes

    public int scene(int again) {
        if (again != 0 && again != 1) {
            return BAD;
        }
        return scenes.add(again == 1);
    }

    public int anchor(int scene, int side, int code, int x) {
        if (!scenes.has(scene) || side != BEGINNING && side != END || !scenes.isAnchor(code, x)) {
            return BAD;
        }
        if (scenes.wouldRing(2 * scene + side, code, x)) {
            return NO;
        }
        scenes.setAnchor(2 * scene + side, code, x);
        return 0;
    }

    public int everyTurn(int book) {
        if (!isBookOrNone(book)) {
            return BAD;
        }
        turnBook = book;
        return 0;
    }

    public int turn() {
        scenes.takeTurn();
        int answer = runner.answerOf(bookAt(turnBook), subjectAt(0));
        return answer <= ERR_ANSWER ? answer : scenes.eventCount;
    }

    public int event(int i) {
        if (i < 0 || i >= scenes.eventCount) {
            return NONE;
        }
        return scenes.events[i];
    }

    public int happens(int scene, int what) {
        if (!scenes.has(scene) || what != 0 && what != 1) {
            return BAD;
        }
        return what == 0 ? asNumber(scenes.isOn(scene)) : scenes.beganOften(scene);
    }

    // ---- phrases

    public int phrase(int name, int first, int second) {
        if (!isName(name) || !kinds.has(first) || !kinds.has(second)) {
            return BAD;
        }
        return phrases.add(name, first, second);
    }

    public int choose(int name, int first, int second) {
        Subject one = subjectAt(first);
        Subject two = subjectAt(second);
        if (!isName(name) || one == null || two == null) {
            return BAD;
        }
        return phrases.mostSpecial(name, one.kind, two.kind);
    }

    // ---- counts

    public int count(int what) {
        switch (what) {
            case 0:
                return kinds.told;
            case 1:
                return subjects.size();
            case 2:
                return books.size();
            case 3:
                return rules.size();
            case 4:
                return actionCount;
            case 5:
                return activityCount;
            case 6:
                return openCount;
            case 7:
                return scenes.told.size();
            case 8:
                return phrases.told;
            case 9:
                return runner.trace.length;
            case 10:
                return scenes.clock;
            default:
                return BAD;
        }
    }

    // ---- what there is

    private Subject subjectAt(int subject) {
        return subject >= 0 && subject < subjects.size() ? subjects.get(subject) : null;
    }

    private Book bookAt(int book) {
        return book >= 0 && book < books.size() ? books.get(book) : null;
    }

    private Rule ruleAt(int rule) {
        return rule >= 0 && rule < rules.size() ? rules.get(rule) : null;
    }

    private boolean isBookOrNone(int book) {
        return book == NONE || bookAt(book) != null;
    }

    private boolean areBooksOrNone(int[] numbers) {
        for (int i = 0; i < numbers.length; i++) {
            if (!isBookOrNone(numbers[i])) {
                return false;
            }
        }
        return true;
    }

    private static boolean isSlot(int x) {
        return x >= 0 && x < SLOTS;
    }

    private static boolean isName(int name) {
        return name >= 0 && name <= LAST_NAME;
    }

    private static boolean isAboutAnother(int how) {
        return how == BEFORE || how == BEHIND || how == INSTEAD;
    }

    private static int asNumber(boolean so) {
        return so ? 1 : 0;
    }

    /** The tree of kinds, each with its parent and its DEEP. */
    private static final class Kinds {
        private final int[] parents = new int[MOST_KINDS];
        private final int[] deeps = new int[MOST_KINDS];
        private int told = 1;

        boolean has(int kind) {
            return kind >= 0 && kind < told;
        }

        int add(int parent) {
            if (told >= MOST_KINDS) {
                return FULL;
            }
            parents[told] = parent;
            deeps[told] = deeps[parent] + 1;
            told++;
            return told - 1;
        }

        int deepOf(int kind) {
            return deeps[kind];
        }

        boolean isUnder(int kind, int other) {
            int at = kind;
            for (int climb = deeps[kind] - deeps[other]; climb > 0; climb--) {
                at = parents[at];
            }
            return at == other;
        }
    }

    /** What books are run for. */
    private static final class Subject {
        private final int kind;
        private final int[] values = new int[SLOTS];

        Subject(int kind) {
            this.kind = kind;
        }
    }

    /** What must be so for a rule to apply. */
    private static final class Condition {
        private final int code;
        private final boolean contrary;
        private final int x;
        private final int y;

        Condition(int code, int x, int y) {
            this.contrary = code >= CONTRARY;
            this.code = contrary ? code - CONTRARY : code;
            this.x = x;
            this.y = y;
        }
    }

    /** A rule with its conditions, what it does, and its order, if one was told. */
    private static final class Rule {
        private final int number;
        private final Book owner;
        private final int section;
        private final int special;
        private final ArrayList<Condition> conditions = new ArrayList<>();
        private int deepSum;
        private int deed = DOES_NOTHING;
        private int deedX;
        private int deedY;
        private int how;
        private Rule mark;

        Rule(int number, Book owner, int section, int special) {
            this.number = number;
            this.owner = owner;
            this.section = section;
            this.special = special;
        }

        /** Whether it stands in front of an older rule, before any orders. */
        boolean outranks(Rule older) {
            if (section != older.section) {
                return section < older.section;
            }
            if (special != older.special) {
                return special > older.special;
            }
            if (conditions.size() != older.conditions.size()) {
                return conditions.size() > older.conditions.size();
            }
            return deepSum > older.deepSum;
        }
    }

    /** A book, whose row is made anew with all that is told of its rules: no run changes it. */
    private static final class Book {
        private final int otherwise;
        private final int[] firstNumbers = new int[SLOTS];
        private final ArrayList<Rule> own = new ArrayList<>();
        private final ArrayList<Rule> ordered = new ArrayList<>();
        private final ArrayList<Rule> row = new ArrayList<>();

        Book(int otherwise) {
            this.otherwise = otherwise;
        }

        void takeRule(Rule rule) {
            own.add(rule);
            arrangeRow();
        }

        /** The rule's order is new, so that it comes behind all orders that were told before. */
        void takeOrder(Rule rule) {
            int old = placeIn(ordered, rule);
            if (old != NOWHERE) {
                ordered.remove(old);
            }
            ordered.add(rule);
            arrangeRow();
        }

        void arrangeRow() {
            row.clear();
            for (int i = 0; i < own.size(); i++) {
                putByRank(own.get(i));
            }
            for (int i = 0; i < ordered.size(); i++) {
                carryOutOrder(ordered.get(i));
            }
        }

        /** Rules come here by numbers, so that of like ones the older stays in front. */
        private void putByRank(Rule rule) {
            int place = row.size();
            while (place > 0 && rule.outranks(row.get(place - 1))) {
                place--;
            }
            row.add(place, rule);
        }

        private void carryOutOrder(Rule rule) {
            int from = placeIn(row, rule);
            if (from == NOWHERE) {
                return;
            }
            if (isAboutAnother(rule.how) && placeIn(row, rule.mark) == NOWHERE) {
                return;
            }
            row.remove(from);
            switch (rule.how) {
                case FIRST:
                    row.add(0, rule);
                    break;
                case LAST:
                    row.add(rule);
                    break;
                case BEFORE:
                    row.add(placeIn(row, rule.mark), rule);
                    break;
                case BEHIND:
                    row.add(placeIn(row, rule.mark) + 1, rule);
                    break;
                case INSTEAD:
                    row.set(placeIn(row, rule.mark), rule);
                    break;
                default:
                    break;
            }
        }

        private static int placeIn(ArrayList<Rule> list, Rule rule) {
            for (int i = 0; i < list.size(); i++) {
                if (list.get(i) == rule) {
                    return i;
                }
            }
            return NOWHERE;
        }
    }

    /** What a run has of its own. */
    private static final class OwnState {
        private final int[] variables = new int[SLOTS];
        /** A bit for each rule that applied: there are fewer rules than a long has bits. */
        private long applied;

        void startWith(int[] firstNumbers) {
            System.arraycopy(firstNumbers, 0, variables, 0, SLOTS);
            applied = 0L;
        }

        void noteApplied(int rule) {
            applied |= 1L << rule;
        }

        boolean hasApplied(int rule) {
            return (applied >> rule & 1L) != 0L;
        }
    }

    /** The rules that were looked at in one call. */
    private static final class Trace {
        private final int[] looked = new int[MOST_LOOKED_AT];
        private final int[] applied = new int[MOST_LOOKED_AT];
        private final int[] depths = new int[MOST_LOOKED_AT];
        private int length;

        boolean isFull() {
            return length >= MOST_LOOKED_AT;
        }

        void add(int rule, boolean applies, int depth) {
            looked[length] = rule;
            applied[length] = asNumber(applies);
            depths[length] = depth;
            length++;
        }

        int at(int i, int what) {
            if (i < 0 || i >= length) {
                return NONE;
            }
            switch (what) {
                case 0:
                    return looked[i];
                case 1:
                    return applied[i];
                case 2:
                    return depths[i];
                default:
                    return NONE;
            }
        }
    }

    /** Goes through books; keeps the trace and the err of the latest call that had a run. */
    private static final class Runner {
        /** What a rule says of its run; a number above these is the outcome with which it ends. */
        private static final int GOES_ON = -1, ENDS = 0;

        private final Kinds kinds;
        private final ArrayList<Book> books;
        private final Scenes scenes;
        private final OwnState[] states = new OwnState[MOST_RUNS_WITHIN];
        private final Trace trace = new Trace();
        private int errCode;
        private int errRule;

        Runner(Kinds kinds, ArrayList<Book> books, Scenes scenes) {
            this.kinds = kinds;
            this.books = books;
            this.scenes = scenes;
            for (int i = 0; i < MOST_RUNS_WITHIN; i++) {
                states[i] = new OwnState();
            }
        }

        /** A call with one run alone; 0, and no run, where there is no book or no subject for it. */
        int answerOf(Book book, Subject subject) {
            if (book == null || subject == null) {
                return 0;
            }
            startCall();
            int outcome = outcomeOf(book, subject, 1);
            if (hasErred()) {
                return errAnswer();
            }
            return outcome > 0 ? outcome : book.otherwise;
        }

        /** A call with a run for each stage that has a book. */
        int answerOfStages(int[] stages, Subject subject) {
            boolean hasRun = false;
            for (int stage = 0; stage < stages.length; stage++) {
                int book = stages[stage];
                if (book < 0 || book >= books.size()) {
                    continue;
                }
                // The trace is that of the whole call, but a call without a run leaves the older one.
                if (!hasRun) {
                    startCall();
                    hasRun = true;
                }
                int outcome = outcomeOf(books.get(book), subject, 1);
                if (hasErred()) {
                    return errAnswer();
                }
                if (outcome > 0 && stage != CARRY_OUT && stage != REPORT) {
                    return STAGE_ANSWER * (stage + 1) + outcome;
                }
            }
            return 0;
        }

        private void startCall() {
            trace.length = 0;
            errCode = 0;
        }

        private boolean hasErred() {
            return errCode != 0;
        }

        private int errAnswer() {
            return ERR_ANSWER - errRule;
        }

        /** The outcome, or ENDS without one. The depth is how many runs there are with this one. */
        private int outcomeOf(Book book, Subject subject, int depth) {
            OwnState state = states[depth - 1];
            state.startWith(book.firstNumbers);
            for (int i = 0; i < book.row.size(); i++) {
                int said = lookAt(book.row.get(i), subject, state, depth);
                if (said != GOES_ON) {
                    return said;
                }
            }
            return ENDS;
        }

        private int lookAt(Rule rule, Subject subject, OwnState state, int depth) {
            if (trace.isFull()) {
                return err(ERR_TOO_MANY, rule);
            }
            boolean applies = areAllSo(rule.conditions, subject, state);
            trace.add(rule.number, applies, depth);
            if (!applies) {
                return GOES_ON;
            }
            state.noteApplied(rule.number);
            return perform(rule, subject, state, depth);
        }

        private boolean areAllSo(ArrayList<Condition> conditions, Subject subject, OwnState state) {
            for (int i = 0; i < conditions.size(); i++) {
                Condition condition = conditions.get(i);
                if (isSo(condition, subject, state) == condition.contrary) {
                    return false;
                }
            }
            return true;
        }

        private boolean isSo(Condition condition, Subject subject, OwnState state) {
            int x = condition.x;
            switch (condition.code) {
                case IF_UNDER:
                    return kinds.isUnder(subject.kind, x);
                case IF_VALUE_IS:
                    return subject.values[x] == condition.y;
                case IF_VALUE_ABOVE:
                    return subject.values[x] > condition.y;
                case IF_VARIABLE_IS:
                    return state.variables[x] == condition.y;
                case IF_VARIABLE_ABOVE:
                    return state.variables[x] > condition.y;
                case IF_HAPPENS:
                    return scenes.isOn(x);
                case IF_APPLIED:
                    return state.hasApplied(x);
                default:
                    return false;
            }
        }

        private int perform(Rule rule, Subject subject, OwnState state, int depth) {
            int x = rule.deedX;
            int y = rule.deedY;
            switch (rule.deed) {
                case DECIDES:
                    return x;
                case ADDS:
                    state.variables[x] += y;
                    return GOES_ON;
                case SETS_VALUE:
                    subject.values[x] = y;
                    return GOES_ON;
                case DIVIDES:
                    if (state.variables[y] == 0) {
                        return err(ERR_DIVIDES, rule);
                    }
                    subject.values[x] /= state.variables[y];
                    return GOES_ON;
                case FOLLOWS:
                case ABIDES:
                    return goToBook(rule, subject, depth);
                case STOPS:
                    return ENDS;
                case SETS_VARIABLE:
                    state.variables[x] = subject.values[y];
                    return GOES_ON;
                default:
                    return GOES_ON;
            }
        }

        private int goToBook(Rule rule, Subject subject, int depth) {
            if (depth >= MOST_RUNS_WITHIN) {
                return err(ERR_TOO_DEEP, rule);
            }
            int outcome = outcomeOf(books.get(rule.deedX), subject, depth + 1);
            if (hasErred()) {
                return ENDS;
            }
            return rule.deed == ABIDES && outcome > 0 ? outcome : GOES_ON;
        }

        private int err(int code, Rule rule) {
            errCode = code;
            errRule = rule.number;
            return ENDS;
        }
    }

    /** A scene, with its anchors by side. */
    private static final class Scene {
        private final boolean again;
        private boolean on;
        private int began;
        private final int[] codes = {NEVER, NEVER};
        private final int[] xs = new int[2];

        Scene(boolean again) {
            this.again = again;
        }
    }

    /**
     * The scenes, the clock and the events of the latest turn. A beginning or end is named as its
     * event is: twice the scene, and 1 for an end.
     */
    private static final class Scenes {
        private static final int MOST_EVENTS = 2 * MOST_SCENES;

        private final ArrayList<Subject> subjects;
        private final ArrayList<Scene> told = new ArrayList<>();
        private final int[] events = new int[MOST_EVENTS];
        private int eventCount;
        private int clock;

        Scenes(ArrayList<Subject> subjects) {
            this.subjects = subjects;
        }

        boolean has(int scene) {
            return scene >= 0 && scene < told.size();
        }

        int add(boolean again) {
            if (told.size() >= MOST_SCENES) {
                return FULL;
            }
            told.add(new Scene(again));
            return told.size() - 1;
        }

        boolean isOn(int scene) {
            return told.get(scene).on;
        }

        int beganOften(int scene) {
            return told.get(scene).began;
        }

        boolean isAnchor(int code, int x) {
            switch (code) {
                case NEVER:
                    return true;
                case AT_CLOCK:
                    return x >= 0;
                case AT_BEGINNING:
                case AT_END:
                    return has(x);
                case AT_VALUE:
                    return x >= 0 && x / SLOTS < subjects.size();
                default:
                    return false;
            }
        }

        void setAnchor(int event, int code, int x) {
            Scene scene = told.get(event / 2);
            scene.codes[event % 2] = code;
            scene.xs[event % 2] = x;
        }

        /** There is no ring so far, so that a new one leads through the new anchor. */
        boolean wouldRing(int event, int code, int x) {
            int at = eventOf(code, x);
            for (int step = 0; step < MOST_EVENTS && at != NOWHERE && at != event; step++) {
                Scene scene = told.get(at / 2);
                at = eventOf(scene.codes[at % 2], scene.xs[at % 2]);
            }
            return at == event;
        }

        /** The event that an anchor waits for. */
        private static int eventOf(int code, int x) {
            switch (code) {
                case AT_BEGINNING:
                    return 2 * x + BEGINNING;
                case AT_END:
                    return 2 * x + END;
                default:
                    return NOWHERE;
            }
        }

        void takeTurn() {
            clock++;
            eventCount = 0;
            // Each round but the last one has an event at least.
            for (int round = 0; round <= MOST_EVENTS; round++) {
                int before = eventCount;
                goRound();
                if (eventCount == before) {
                    return;
                }
            }
        }

        private void goRound() {
            for (int i = 0; i < told.size(); i++) {
                Scene scene = told.get(i);
                int side = scene.on ? END : BEGINNING;
                if (mayChange(i, side) && isMet(scene.codes[side], scene.xs[side])) {
                    change(i, side);
                }
            }
        }

        private boolean mayChange(int number, int side) {
            if (wasInTurn(2 * number + side)) {
                return false;
            }
            Scene scene = told.get(number);
            return side == END || scene.began == 0 || scene.again;
        }

        private void change(int number, int side) {
            Scene scene = told.get(number);
            scene.on = side == BEGINNING;
            if (scene.on) {
                scene.began++;
            }
            events[eventCount] = 2 * number + side;
            eventCount++;
        }

        private boolean isMet(int code, int x) {
            switch (code) {
                case AT_CLOCK:
                    return clock >= x;
                case AT_BEGINNING:
                case AT_END:
                    return wasInTurn(eventOf(code, x));
                case AT_VALUE:
                    return subjects.get(x / SLOTS).values[x % SLOTS] > 0;
                default:
                    return false;
            }
        }

        private boolean wasInTurn(int event) {
            for (int i = 0; i < eventCount; i++) {
                if (events[i] == event) {
                    return true;
                }
            }
            return false;
        }
    }

    /** The phrases, chosen by a name and two kinds. */
    private static final class Phrases {
        private final Kinds kinds;
        private final int[] names = new int[MOST_PHRASES];
        private final int[] firsts = new int[MOST_PHRASES];
        private final int[] seconds = new int[MOST_PHRASES];
        private int told;

        Phrases(Kinds kinds) {
            this.kinds = kinds;
        }

        int add(int name, int first, int second) {
            if (isTold(name, first, second)) {
                return NO;
            }
            if (told >= MOST_PHRASES) {
                return FULL;
            }
            names[told] = name;
            firsts[told] = first;
            seconds[told] = second;
            told++;
            return told - 1;
        }

        private boolean isTold(int name, int first, int second) {
            for (int i = 0; i < told; i++) {
                if (names[i] == name && firsts[i] == first && seconds[i] == second) {
                    return true;
                }
            }
            return false;
        }

        int mostSpecial(int name, int first, int second) {
            int answer = NONE;
            for (int i = 0; i < told; i++) {
                if (isMeant(i, name, first, second)) {
                    if (isUnderAllMeant(i, first, second)) {
                        return i;
                    }
                    answer = TWO;
                }
            }
            return answer;
        }

        private boolean isMeant(int phrase, int name, int first, int second) {
            return names[phrase] == name && kinds.isUnder(first, firsts[phrase])
                    && kinds.isUnder(second, seconds[phrase]);
        }

        private boolean isUnderAllMeant(int phrase, int first, int second) {
            for (int i = 0; i < told; i++) {
                if (isMeant(i, names[phrase], first, second)
                        && !isMeant(i, names[phrase], firsts[phrase], seconds[phrase])) {
                    return false;
                }
            }
            return true;
        }
    }
}
