/** Promises 17 and 18. */
public final class ActionsTest {
    private static final Check CHECK = new Check();
    private static final int NONE = RuleBooks.NONE;

    public static void main(String[] args) {
        actions();
        mostActions();
        eachStage();
        goesThroughAll();
        defaultIsNoOutcome();
        errs();
        oneLimitForAllStages();
        withoutBooks();
        CHECK.end();
    }

    private static void actions() {
        RuleBooks x = new RuleBooks();
        CHECK.due("an action of no books", x.action(NONE, NONE, NONE, NONE, NONE, NONE), 0);
        CHECK.due("without that book", x.action(0, NONE, NONE, NONE, NONE, NONE), -1);
        x.book(0);
        CHECK.due("with it", x.action(0, 0, 0, 0, 0, 0), 1);
        for (int wrong : new int[] {1, -1, -2, -3, -5, Integer.MIN_VALUE}) {
            CHECK.due("before " + wrong, x.action(wrong, 0, 0, 0, 0, 0), -1);
            CHECK.due("instead " + wrong, x.action(0, wrong, 0, 0, 0, 0), -1);
            CHECK.due("check " + wrong, x.action(0, 0, wrong, 0, 0, 0), -1);
            CHECK.due("carry " + wrong, x.action(0, 0, 0, wrong, 0, 0), -1);
            CHECK.due("after " + wrong, x.action(0, 0, 0, 0, wrong, 0), -1);
            CHECK.due("report " + wrong, x.action(0, 0, 0, 0, 0, wrong), -1);
        }
        CHECK.due("count(4)", x.count(4), 2);
        CHECK.due("act without a subject", x.act(0, 0), -1);
        x.subject(0);
        CHECK.due("act(0, 0)", x.act(0, 0), 0);
        CHECK.due("act(2, 0)", x.act(2, 0), -1);
        CHECK.due("act(-1, 0)", x.act(-1, 0), -1);
        CHECK.due("act(0, 1)", x.act(0, 1), -1);
        CHECK.due("act(0, -1)", x.act(0, -1), -1);
    }

    private static void mostActions() {
        RuleBooks x = new RuleBooks();
        x.subject(0);
        x.book(0);
        x.does(x.rule(0, 0, 0), 1, 8, 0);
        for (int i = 0; i < 8; i++) {
            CHECK.due("an action", x.action(NONE, NONE, NONE, NONE, i == 7 ? 0 : NONE, NONE), i);
        }
        CHECK.due("the ninth", x.action(0, 0, 0, 0, 0, 0), -3);
        CHECK.due("BAD before FULL", x.action(0, 0, 0, 0, 0, 1), -1);
        CHECK.due("count(4) when full", x.count(4), 8);
        CHECK.due("act(7, 0)", x.act(7, 0), 508);
        CHECK.due("act(6, 0)", x.act(6, 0), 0);
        CHECK.due("act(8, 0)", x.act(8, 0), -1);
    }

    private static void eachStage() {
        for (int stage = 0; stage < 6; stage++) {
            RuleBooks x = new RuleBooks();
            x.subject(0);
            x.subject(0);
            for (int i = 0; i < 6; i++) {
                x.book(0);
                x.does(x.rule(i, 0, 0), i == stage ? 1 : 3, i == stage ? 42 : 0, i + 1);
            }
            CHECK.due("action", x.action(0, 1, 2, 3, 4, 5), 0);
            boolean goesOn = stage == 3 || stage == 5;
            CHECK.due("an outcome in stage " + stage, x.act(0, 1), goesOn ? 0 : 100 * (stage + 1) + 42);
            CHECK.due("how many rules", x.count(9), goesOn ? 6 : stage + 1);
            CHECK.due("the other subject", x.value(0, 0), 0);
        }
    }

    private static void goesThroughAll() {
        RuleBooks x = new RuleBooks();
        x.subject(0);
        for (int i = 0; i < 6; i++) {
            x.book(0);
            x.rule(i, 0, 0);
        }
        x.action(5, 4, 3, 2, 1, 0);
        CHECK.due("act", x.act(0, 0), 0);
        CHECK.dueText("trace", Check.trace(x), "5/1/1 4/1/1 3/1/1 2/1/1 1/1/1 0/1/1");
        x.action(1, NONE, 3, NONE, 1, 0);
        CHECK.due("act, with stages without a book", x.act(1, 0), 0);
        CHECK.dueText("trace", Check.trace(x), "1/1/1 3/1/1 1/1/1 0/1/1");
    }

    private static void defaultIsNoOutcome() {
        RuleBooks x = new RuleBooks();
        x.subject(0);
        x.book(9);
        x.rule(0, 0, 0);
        x.action(0, 0, 0, 0, 0, 0);
        CHECK.due("a default is no outcome", x.act(0, 0), 0);
        x.does(0, 7, 0, 0);
        CHECK.due("nor is a stop", x.act(0, 0), 0);
        CHECK.due("six runs", x.count(9), 6);
    }

    private static void errs() {
        RuleBooks x = new RuleBooks();
        x.subject(0);
        x.book(0);
        x.book(0);
        x.rule(0, 0, 0);
        x.rule(1, 0, 0);
        x.does(1, 4, 0, 0);
        x.action(0, 0, 0, 1, 0, 0);
        CHECK.due("an err in carry out", x.act(0, 0), -11);
        CHECK.due("erred()", x.erred(), 1);
        CHECK.due("nothing comes behind", x.count(9), 4);
        x.action(0, 0, 0, 0, 0, 1);
        CHECK.due("an err in report", x.act(1, 0), -11);
        x.variable(1, 0, 1);
        CHECK.due("no err", x.act(1, 0), 0);
        CHECK.due("erred()", x.erred(), 0);
    }

    private static void oneLimitForAllStages() {
        RuleBooks x = new RuleBooks();
        x.subject(0);
        x.book(0);
        x.book(0);
        for (int i = 0; i < 50; i++) {
            x.rule(0, 0, 0);
        }
        x.action(0, 0, 0, 0, 0, 0);
        CHECK.due("six times 50", x.act(0, 0), 0);
        CHECK.due("count(9)", x.count(9), 300);
        x.rule(1, 0, 0);
        x.action(1, 0, 0, 0, 0, 0);
        CHECK.due("251", x.act(1, 0), 0);
        x.rule(0, 2, 0);
        CHECK.due("six times 51", x.act(0, 0), -10 - 45);
        CHECK.due("erred()", x.erred(), 3);
        CHECK.due("count(9)", x.count(9), 300);
    }

    private static void withoutBooks() {
        RuleBooks x = new RuleBooks();
        x.subject(0);
        x.book(0);
        x.does(x.rule(0, 0, 0), 4, 0, 0);
        x.run(0, 0);
        x.action(NONE, NONE, NONE, NONE, NONE, NONE);
        CHECK.due("act without books", x.act(0, 0), 0);
        CHECK.due("the older trace stays", x.count(9), 1);
        CHECK.due("the older err stays", x.erred(), 1);
        x.book(0);
        x.action(NONE, NONE, NONE, NONE, NONE, 1);
        CHECK.due("act with an empty book", x.act(1, 0), 0);
        CHECK.due("the trace is empty", x.count(9), 0);
        CHECK.due("no err", x.erred(), 0);
    }
}
