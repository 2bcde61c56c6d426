/** Promises 19 to 23. */
public final class ActivitiesTest {
    private static final Check CHECK = new Check();
    private static final int NONE = RuleBooks.NONE;

    public static void main(String[] args) {
        activities();
        mostActivities();
        parts();
        oneWithinTheOther();
        errs();
        withoutBooks();
        mostOpen();
        CHECK.end();
    }

    private static void activities() {
        RuleBooks x = new RuleBooks();
        CHECK.due("of no books", x.activity(NONE, NONE, NONE), 0);
        CHECK.due("without that book", x.activity(0, NONE, NONE), -1);
        x.book(0);
        CHECK.due("with it", x.activity(0, 0, 0), 1);
        for (int wrong : new int[] {1, -1, -2, -3, -5}) {
            CHECK.due("before " + wrong, x.activity(wrong, 0, 0), -1);
            CHECK.due("middle " + wrong, x.activity(0, wrong, 0), -1);
            CHECK.due("after " + wrong, x.activity(0, 0, wrong), -1);
        }
        CHECK.due("count(5)", x.count(5), 2);
        CHECK.due("begin without a subject", x.begin(0, 0), -1);
        x.subject(0);
        CHECK.due("begin(2, 0)", x.begin(2, 0), -1);
        CHECK.due("begin(-1, 0)", x.begin(-1, 0), -1);
        CHECK.due("begin(0, 1)", x.begin(0, 1), -1);
        CHECK.due("begin(0, -1)", x.begin(0, -1), -1);
        CHECK.due("count(6) after refusals", x.count(6), 0);
        CHECK.due("middle() of none", x.middle(), -2);
        CHECK.due("finish() of none", x.finish(), -2);
        CHECK.due("abandon() of none", x.abandon(), -2);
        CHECK.due("count(6)", x.count(6), 0);
    }

    private static void mostActivities() {
        RuleBooks x = new RuleBooks();
        x.subject(0);
        for (int i = 0; i < 6; i++) {
            CHECK.due("an activity", x.activity(NONE, NONE, NONE), i);
        }
        CHECK.due("the seventh", x.activity(NONE, NONE, NONE), -3);
        CHECK.due("BAD before FULL", x.activity(NONE, 0, NONE), -1);
        CHECK.due("count(5) when full", x.count(5), 6);
        CHECK.due("begin(5, 0)", x.begin(5, 0), 0);
        CHECK.due("begin(6, 0)", x.begin(6, 0), -1);
        CHECK.due("abandon()", x.abandon(), 5);
    }

    /** Books 0, 1, 2 decide 10, 20, 30, if value 0 is 0; their defaults are 1, 2, 3. */
    private static RuleBooks withBooks() {
        RuleBooks x = new RuleBooks();
        x.subject(0);
        x.subject(0);
        for (int i = 0; i < 3; i++) {
            x.book(i + 1);
            x.does(x.rule(i, 0, 0), 1, 10 * (i + 1), 0);
            x.condition(i, 1, 0, 0);
        }
        x.activity(0, 1, 2);
        return x;
    }

    private static void parts() {
        RuleBooks x = withBooks();
        x.set(1, 0, 1);
        CHECK.due("begin(0, 0)", x.begin(0, 0), 10);
        CHECK.dueText("trace", Check.trace(x), "0/1/1");
        CHECK.due("count(6)", x.count(6), 1);
        CHECK.due("middle()", x.middle(), 20);
        CHECK.due("middle() again", x.middle(), 20);
        CHECK.dueText("trace", Check.trace(x), "1/1/1");
        CHECK.due("count(6)", x.count(6), 1);
        CHECK.due("finish()", x.finish(), 30);
        CHECK.dueText("trace", Check.trace(x), "2/1/1");
        CHECK.due("count(6)", x.count(6), 0);
        CHECK.due("begin(0, 1), the default", x.begin(0, 1), 1);
        CHECK.due("middle(), the default", x.middle(), 2);
        CHECK.due("finish(), the default", x.finish(), 3);
    }

    private static void oneWithinTheOther() {
        RuleBooks x = withBooks();
        x.activity(2, 0, 1);
        x.set(1, 0, 1);
        CHECK.due("begin(0, 0)", x.begin(0, 0), 10);
        CHECK.due("begin(1, 1)", x.begin(1, 1), 3);
        CHECK.due("begin(1, 0)", x.begin(1, 0), 30);
        CHECK.due("middle() of the third", x.middle(), 10);
        CHECK.due("abandon() of the third", x.abandon(), 1);
        CHECK.dueText("abandoning has no run", Check.trace(x), "0/1/1");
        CHECK.due("middle() of the second", x.middle(), 1);
        CHECK.due("finish() of the second", x.finish(), 2);
        CHECK.due("middle() of the first", x.middle(), 20);
        CHECK.due("abandon() of the first", x.abandon(), 0);
        CHECK.due("abandon() of none", x.abandon(), -2);
    }

    private static void errs() {
        RuleBooks x = withBooks();
        x.does(0, 4, 0, 0);
        x.does(1, 4, 0, 0);
        x.does(2, 4, 0, 0);
        CHECK.due("begin errs", x.begin(0, 0), -10);
        CHECK.due("it is not open", x.count(6), 0);
        CHECK.due("erred()", x.erred(), 1);
        x.variable(0, 0, 1);
        CHECK.due("begin", x.begin(0, 0), 1);
        CHECK.due("it is open", x.count(6), 1);
        CHECK.due("middle errs", x.middle(), -11);
        CHECK.due("it is still open", x.count(6), 1);
        CHECK.due("finish errs", x.finish(), -12);
        CHECK.due("it is not open any more", x.count(6), 0);
        x.variable(0, 0, 0);
        x.activity(NONE, NONE, NONE);
        x.begin(1, 0);
        CHECK.due("begin errs within another", x.begin(0, 0), -10);
        CHECK.due("the other is open still", x.count(6), 1);
        CHECK.due("it is the latest", x.abandon(), 1);
    }

    private static void withoutBooks() {
        RuleBooks x = withBooks();
        x.activity(NONE, NONE, NONE);
        x.does(0, 4, 0, 0);
        x.run(0, 0);
        CHECK.due("begin without a book", x.begin(1, 0), 0);
        CHECK.due("it is open", x.count(6), 1);
        CHECK.due("middle without a book", x.middle(), 0);
        CHECK.due("finish without a book", x.finish(), 0);
        CHECK.due("it is not open", x.count(6), 0);
        CHECK.due("there was no run", x.erred(), 1);
        CHECK.due("the trace stays", x.count(9), 1);
    }

    private static void mostOpen() {
        RuleBooks x = withBooks();
        for (int i = 0; i < 4; i++) {
            CHECK.due("begin", x.begin(0, 0), 10);
            CHECK.due("count(6)", x.count(6), i + 1);
        }
        x.does(0, 3, 1, 5);
        CHECK.due("the fifth", x.begin(0, 0), -3);
        CHECK.due("it has no run", x.value(0, 1), 0);
        CHECK.due("BAD before FULL", x.begin(1, 0), -1);
        CHECK.due("BAD subject before FULL", x.begin(0, 2), -1);
        CHECK.due("count(6) when full", x.count(6), 4);
        x.abandon();
        CHECK.due("room again", x.begin(0, 0), 1);
        CHECK.due("it had a run", x.value(0, 1), 5);
        CHECK.due("count(6) when full again", x.count(6), 4);
    }
}
