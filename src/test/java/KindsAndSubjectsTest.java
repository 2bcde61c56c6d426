/** Promises 1 to 6. */
public final class KindsAndSubjectsTest {
    private static final Check CHECK = new Check();

    public static void main(String[] args) {
        newObject();
        kinds();
        mostKinds();
        under();
        subjects();
        mostSubjects();
        values();
        CHECK.end();
    }

    private static void newObject() {
        RuleBooks x = new RuleBooks();
        CHECK.dueText("counts of a new object", Check.counts(x), "1 0 0 0 0 0 0 0 0 0 0");
        CHECK.due("under(0, 0) of a new object", x.under(0, 0), 1);
        CHECK.due("under(1, 0) of a new object", x.under(1, 0), -1);
        CHECK.due("value(0, 0) of a new object", x.value(0, 0), -1);
        CHECK.due("row(0, 0) of a new object", x.row(0, 0), -1);
        CHECK.due("trace(0, 0) of a new object", x.trace(0, 0), -4);
        CHECK.due("erred() of a new object", x.erred(), 0);
        CHECK.due("event(0) of a new object", x.event(0), -4);
        CHECK.due("happens(0, 0) of a new object", x.happens(0, 0), -1);
        CHECK.due("finish() of a new object", x.finish(), -2);
        CHECK.due("turn() of a new object", x.turn(), 0);
    }

    private static void kinds() {
        RuleBooks x = new RuleBooks();
        CHECK.due("kind(1), itself", x.kind(1), -1);
        CHECK.due("kind(-1)", x.kind(-1), -1);
        CHECK.due("kind(MIN)", x.kind(Integer.MIN_VALUE), -1);
        CHECK.due("kind(MAX)", x.kind(Integer.MAX_VALUE), -1);
        CHECK.due("count(0) after refusals", x.count(0), 1);
        CHECK.due("kind(0)", x.kind(0), 1);
        CHECK.due("kind(1)", x.kind(1), 2);
        CHECK.due("count(0)", x.count(0), 3);
    }

    private static void mostKinds() {
        RuleBooks x = new RuleBooks();
        for (int i = 1; i < 20; i++) {
            CHECK.due("kind(" + (i - 1) + ")", x.kind(i - 1), i);
        }
        CHECK.due("kind(0), the 21st", x.kind(0), -3);
        CHECK.due("kind(19), the 21st", x.kind(19), -3);
        CHECK.due("kind(20), BAD before FULL", x.kind(20), -1);
        CHECK.due("count(0) when full", x.count(0), 20);
        CHECK.due("under(19, 0)", x.under(19, 0), 1);
        CHECK.due("under(19, 18)", x.under(19, 18), 1);
        CHECK.due("under(0, 19)", x.under(0, 19), 0);
        CHECK.due("under(20, 0)", x.under(20, 0), -1);
    }

    private static void under() {
        RuleBooks x = new RuleBooks();
        x.kind(0);
        x.kind(0);
        x.kind(1);
        x.kind(2);
        x.kind(3);
        int[][] due = {
            {1, 0, 0, 0, 0, 0}, {1, 1, 0, 0, 0, 0}, {1, 0, 1, 0, 0, 0},
            {1, 1, 0, 1, 0, 0}, {1, 0, 1, 0, 1, 0}, {1, 1, 0, 1, 0, 1}};
        for (int kind = 0; kind < 6; kind++) {
            for (int other = 0; other < 6; other++) {
                CHECK.due("under(" + kind + ", " + other + ")", x.under(kind, other), due[kind][other]);
            }
        }
        CHECK.due("under(6, 0)", x.under(6, 0), -1);
        CHECK.due("under(0, 6)", x.under(0, 6), -1);
        CHECK.due("under(-1, 0)", x.under(-1, 0), -1);
        CHECK.due("under(0, -1)", x.under(0, -1), -1);
    }

    private static void subjects() {
        RuleBooks x = new RuleBooks();
        CHECK.due("subject(1) without that kind", x.subject(1), -1);
        CHECK.due("subject(-1)", x.subject(-1), -1);
        CHECK.due("subject(0)", x.subject(0), 0);
        x.kind(0);
        CHECK.due("subject(1)", x.subject(1), 1);
        CHECK.due("subject(2)", x.subject(2), -1);
        CHECK.due("count(1)", x.count(1), 2);
    }

    private static void mostSubjects() {
        RuleBooks x = new RuleBooks();
        for (int i = 0; i < 20; i++) {
            CHECK.due("subject(0)", x.subject(0), i);
        }
        CHECK.due("subject(0), the 21st", x.subject(0), -3);
        CHECK.due("subject(1), BAD before FULL", x.subject(1), -1);
        CHECK.due("count(1) when full", x.count(1), 20);
        CHECK.due("set(19, 3, 5)", x.set(19, 3, 5), 0);
        CHECK.due("value(19, 3)", x.value(19, 3), 5);
        CHECK.due("set(20, 0, 5)", x.set(20, 0, 5), -1);
    }

    private static void values() {
        RuleBooks x = new RuleBooks();
        x.subject(0);
        x.subject(0);
        for (int i = 0; i < 4; i++) {
            CHECK.due("value(1, " + i + ") at first", x.value(1, i), 0);
            CHECK.due("set(1, " + i + ", ..)", x.set(1, i, 10 + i), 0);
        }
        for (int i = 0; i < 4; i++) {
            CHECK.due("value(1, " + i + ")", x.value(1, i), 10 + i);
            CHECK.due("value(0, " + i + ")", x.value(0, i), 0);
        }
        CHECK.due("set(1, 0, MIN) answers what it was", x.set(1, 0, Integer.MIN_VALUE), 10);
        CHECK.due("set(1, 0, -1)", x.set(1, 0, -1), Integer.MIN_VALUE);
        CHECK.due("value(1, 0), which is BAD", x.value(1, 0), -1);
        CHECK.due("set(1, 0, 3), which was BAD", x.set(1, 0, 3), -1);
        CHECK.due("value(1, 0)", x.value(1, 0), 3);
        CHECK.due("set(2, 0, 1)", x.set(2, 0, 1), -1);
        CHECK.due("set(-1, 0, 1)", x.set(-1, 0, 1), -1);
        CHECK.due("set(0, 4, 1)", x.set(0, 4, 1), -1);
        CHECK.due("set(0, -1, 1)", x.set(0, -1, 1), -1);
        CHECK.due("value(2, 0)", x.value(2, 0), -1);
        CHECK.due("value(-1, 0)", x.value(-1, 0), -1);
        CHECK.due("value(0, 4)", x.value(0, 4), -1);
        CHECK.due("value(0, -1)", x.value(0, -1), -1);
        CHECK.due("value(0, 3) after refusals", x.value(0, 3), 0);
    }
}
