/** Promises 14 to 16, with all conditions (10) and all that rules do (11). */
public final class RunTest {
    private static final Check CHECK = new Check();
    private static final int MIN = Integer.MIN_VALUE;
    private static final int MAX = Integer.MAX_VALUE;

    public static void main(String[] args) {
        wrongInputs();
        kindConditions();
        valueConditions();
        variableConditions();
        sceneConditions();
        appliedConditions();
        appliedInThisRun();
        allConditions();
        arithmetic();
        stopsAndDecides();
        followsAndAbides();
        ownVariables();
        divisionByZero();
        tooDeep();
        tooMany();
        traceOfLatest();
        CHECK.end();
    }

    /** A book 0 of default 7, subject 0, and rule 0 that decides 1. */
    private static RuleBooks withOneRule() {
        RuleBooks x = new RuleBooks();
        x.subject(0);
        x.book(7);
        x.rule(0, 1, 0);
        x.does(0, 1, 1, 0);
        return x;
    }

    private static void wrongInputs() {
        RuleBooks x = new RuleBooks();
        CHECK.due("run(0, 0) of nothing", x.run(0, 0), -1);
        x.book(4);
        CHECK.due("run(0, 0) without a subject", x.run(0, 0), -1);
        x.subject(0);
        CHECK.due("run(0, 0) without a rule", x.run(0, 0), 4);
        CHECK.due("run(1, 0)", x.run(1, 0), -1);
        CHECK.due("run(-1, 0)", x.run(-1, 0), -1);
        CHECK.due("run(0, 1)", x.run(0, 1), -1);
        CHECK.due("run(0, -1)", x.run(0, -1), -1);
        CHECK.due("run(-4, 0)", x.run(-4, 0), -1);
    }

    private static void kindConditions() {
        RuleBooks x = new RuleBooks();
        x.kind(0);
        x.kind(1);
        x.kind(0);
        for (int kind = 0; kind < 4; kind++) {
            x.subject(kind);
        }
        x.book(0);
        x.book(0);
        x.does(x.rule(0, 0, 0), 1, 5, 0);
        x.condition(0, 0, 1, 0);
        x.does(x.rule(1, 0, 0), 1, 6, 0);
        x.condition(1, 10, 1, 0);
        int[] due = {0, 5, 5, 0};
        int[] dueContrary = {6, 0, 0, 6};
        for (int subject = 0; subject < 4; subject++) {
            CHECK.due("under kind 1: subject " + subject, x.run(0, subject), due[subject]);
            CHECK.due("not under kind 1: subject " + subject, x.run(1, subject), dueContrary[subject]);
        }
    }

    private static int oneCondition(int code, int x, int y, int value) {
        RuleBooks it = withOneRule();
        it.set(0, x, value);
        it.variable(0, x, value);
        it.condition(0, code, x, y);
        return it.run(0, 0);
    }

    private static void valueConditions() {
        valuesOrVariables(1, 2);
        RuleBooks x = withOneRule();
        x.variable(0, 2, 5);
        x.condition(0, 1, 2, 5);
        CHECK.due("a value, no variable", x.run(0, 0), 7);
    }

    private static void variableConditions() {
        valuesOrVariables(3, 4);
        RuleBooks x = withOneRule();
        x.set(0, 2, 5);
        x.condition(0, 3, 2, 5);
        CHECK.due("a variable, no value", x.run(0, 0), 7);
    }

    private static void valuesOrVariables(int is, int above) {
        int[] numbers = {MIN, -1, 0, 1, MAX};
        for (int slot = 0; slot < 4; slot++) {
            for (int value : numbers) {
                for (int y : numbers) {
                    String told = " slot " + slot + ", " + value + " to " + y;
                    CHECK.due("code " + is + told, oneCondition(is, slot, y, value), value == y ? 1 : 7);
                    CHECK.due("code 10 and " + is + told, oneCondition(10 + is, slot, y, value), value == y ? 7 : 1);
                    CHECK.due("code " + above + told, oneCondition(above, slot, y, value), value > y ? 1 : 7);
                    CHECK.due("code 10 and " + above + told, oneCondition(10 + above, slot, y, value), value > y ? 7 : 1);
                }
            }
        }
    }

    private static void sceneConditions() {
        RuleBooks x = withOneRule();
        x.scene(0);
        x.scene(0);
        x.anchor(1, 0, 1, 1);
        x.anchor(1, 1, 1, 2);
        x.condition(0, 5, 1, 0);
        x.rule(0, 2, 0);
        x.does(1, 1, 2, 0);
        x.condition(1, 15, 1, 0);
        CHECK.due("before it happens", x.run(0, 0), 2);
        x.turn();
        CHECK.due("while it happens", x.run(0, 0), 1);
        x.turn();
        CHECK.due("after it happened", x.run(0, 0), 2);
    }

    private static void appliedConditions() {
        RuleBooks x = new RuleBooks();
        x.subject(0);
        x.book(0);
        x.rule(0, 0, 0);
        x.condition(0, 2, 0, 0);
        x.rule(0, 1, 0);
        x.condition(1, 6, 0, 0);
        x.does(1, 1, 11, 0);
        x.rule(0, 2, 0);
        x.condition(2, 16, 0, 0);
        x.does(2, 1, 22, 0);
        CHECK.due("rule 0 did not apply", x.run(0, 0), 22);
        x.set(0, 0, 1);
        CHECK.due("rule 0 applied", x.run(0, 0), 11);
        x.set(0, 0, 0);
        CHECK.due("rule 0 did not apply in this run", x.run(0, 0), 22);
        x.set(0, 0, 1);
        x.order(1, 0, 0);
        CHECK.due("rule 0 comes later", x.run(0, 0), 0);
        x.order(1, 1, 0);
        x.condition(1, 6, 1, 0);
        CHECK.due("no rule applied before itself", x.run(0, 0), 0);
    }

    private static void appliedInThisRun() {
        RuleBooks x = new RuleBooks();
        x.subject(0);
        x.book(0);
        x.rule(0, 0, 0);
        x.condition(0, 1, 0, 0);
        x.does(0, 3, 0, 1);
        x.rule(0, 0, 0);
        x.condition(1, 1, 1, 0);
        x.rule(0, 1, 0);
        x.condition(2, 6, 0, 0);
        x.does(2, 1, 33, 0);
        x.does(1, 5, 0, 0);
        x.rule(0, 0, 5);
        x.condition(3, 1, 0, 1);
        x.does(3, 3, 1, 1);
        CHECK.due("the outer run's rule 0 applied, the inner run's did not", x.run(0, 0), 33);
        CHECK.dueText("trace", Check.trace(x), "3/0/1 0/1/1 1/1/1 3/1/2 0/0/2 1/0/2 2/0/2 2/1/1");
    }

    private static void allConditions() {
        RuleBooks x = withOneRule();
        for (int i = 0; i < 4; i++) {
            x.condition(0, 1, i, 1);
        }
        for (int i = 0; i < 4; i++) {
            CHECK.due("with " + i + " of four", x.run(0, 0), 7);
            CHECK.due("applied with " + i + " of four", x.trace(0, 1), 0);
            x.set(0, i, 1);
        }
        CHECK.due("with all four", x.run(0, 0), 1);
        CHECK.due("applied with all four", x.trace(0, 1), 1);
    }

    private static int divided(int value, int by) {
        RuleBooks x = withOneRule();
        x.set(0, 2, value);
        x.variable(0, 3, by);
        x.does(0, 4, 2, 3);
        CHECK.due("run that divides", x.run(0, 0), 7);
        return x.value(0, 2);
    }

    private static int added(int first, int more) {
        RuleBooks x = withOneRule();
        x.variable(0, 0, first);
        x.does(0, 2, 0, more);
        x.rule(0, 2, 0);
        x.condition(1, 3, 0, first + more);
        x.does(1, 1, 2, 0);
        return x.run(0, 0);
    }

    private static void arithmetic() {
        CHECK.due("7 / 2", divided(7, 2), 3);
        CHECK.due("-7 / 2", divided(-7, 2), -3);
        CHECK.due("7 / -2", divided(7, -2), -3);
        CHECK.due("MIN / -1", divided(MIN, -1), MIN);
        CHECK.due("0 / MIN", divided(0, MIN), 0);
        CHECK.due("3 and 4", added(3, 4), 2);
        CHECK.due("3 and -4", added(3, -4), 2);
        CHECK.due("MAX and 1 wraps", added(MAX, 1), 2);
        CHECK.due("MIN and MIN wraps", added(MIN, MIN), 2);
        RuleBooks x = withOneRule();
        x.set(0, 3, 44);
        x.does(0, 8, 1, 3);
        x.rule(0, 2, 0);
        x.condition(1, 3, 1, 44);
        x.does(1, 3, 0, MIN);
        CHECK.due("a variable becomes a value, a value a number", x.run(0, 0), 7);
        CHECK.due("value(0, 0)", x.value(0, 0), MIN);
        CHECK.due("value(0, 3)", x.value(0, 3), 44);
    }

    private static void stopsAndDecides() {
        RuleBooks x = withOneRule();
        x.rule(0, 0, 0);
        x.does(1, 7, 0, 0);
        CHECK.due("stops: the default", x.run(0, 0), 7);
        CHECK.due("one rule was looked at", x.count(9), 1);
        x.does(1, 1, 99, 0);
        CHECK.due("decides 99", x.run(0, 0), 99);
        CHECK.due("one rule was looked at", x.count(9), 1);
        x.does(1, 0, 0, 0);
        CHECK.due("nothing, and then rule 0", x.run(0, 0), 1);
        CHECK.due("two rules were looked at", x.count(9), 2);
    }

    private static void followsAndAbides() {
        RuleBooks x = new RuleBooks();
        x.subject(0);
        x.subject(0);
        x.book(50);
        x.book(60);
        x.rule(0, 0, 0);
        x.rule(0, 1, 0);
        x.does(1, 1, 2, 0);
        x.rule(1, 0, 0);
        x.does(2, 3, 0, 9);
        x.rule(1, 1, 0);
        x.does(3, 1, 3, 0);
        x.does(0, 5, 1, 0);
        CHECK.due("follows, whatever its outcome", x.run(0, 1), 2);
        CHECK.dueText("trace", Check.trace(x), "0/1/1 2/1/2 3/1/2 1/1/1");
        CHECK.due("the same subject", x.value(1, 0), 9);
        CHECK.due("no other subject", x.value(0, 0), 0);
        x.does(0, 6, 1, 0);
        CHECK.due("abides by an outcome", x.run(0, 0), 3);
        CHECK.dueText("trace", Check.trace(x), "0/1/1 2/1/2 3/1/2");
        x.does(3, 7, 0, 0);
        CHECK.due("abides by a run that stops", x.run(0, 0), 2);
        x.does(3, 0, 0, 0);
        CHECK.due("abides by a run without an outcome: a default is none", x.run(0, 0), 2);
        x.does(1, 0, 0, 0);
        CHECK.due("the default of the outer one", x.run(0, 0), 50);
        x.does(1, 1, 4, 0);
        x.does(0, 7, 0, 0);
        x.does(3, 6, 0, 0);
        CHECK.due("the default of a book that abides by one that stops", x.run(1, 0), 60);
    }

    private static void ownVariables() {
        RuleBooks x = new RuleBooks();
        x.subject(0);
        x.book(0);
        x.book(0);
        x.variable(0, 0, 5);
        x.does(x.rule(0, 0, 0), 2, 0, 1);
        x.does(x.rule(0, 1, 0), 5, 1, 0);
        x.does(x.rule(1, 0, 0), 2, 0, 100);
        x.does(x.rule(1, 1, 0), 1, 8, 0);
        x.condition(3, 3, 0, 100);
        x.does(x.rule(0, 2, 0), 1, 9, 0);
        x.condition(4, 3, 0, 6);
        CHECK.due("variables of its own", x.run(0, 0), 9);
        CHECK.due("first numbers again", x.run(0, 0), 9);
        CHECK.due("the other book had its own", x.trace(3, 1), 1);
    }

    private static void divisionByZero() {
        RuleBooks x = withOneRule();
        x.rule(0, 0, 9);
        x.does(1, 3, 0, 6);
        x.rule(0, 0, 0);
        x.does(2, 4, 0, 1);
        CHECK.due("divides by 0", x.run(0, 0), -12);
        CHECK.due("erred()", x.erred(), 1);
        CHECK.due("value stays as changed before", x.value(0, 0), 6);
        CHECK.dueText("trace", Check.trace(x), "1/1/1 2/1/1");
        x.book(0);
        x.rule(1, 0, 0);
        x.does(3, 5, 0, 0);
        x.rule(1, 0, 0);
        x.does(4, 1, 5, 0);
        CHECK.due("all runs end", x.run(1, 0), -12);
        CHECK.dueText("trace", Check.trace(x), "3/1/1 1/1/2 2/1/2");
        x.does(3, 6, 0, 0);
        CHECK.due("abiding ends too", x.run(1, 0), -12);
        CHECK.due("erred()", x.erred(), 1);
        x.variable(0, 1, 2);
        CHECK.due("without err", x.run(1, 0), 1);
        CHECK.due("erred()", x.erred(), 0);
        CHECK.due("value(0, 0)", x.value(0, 0), 3);
    }

    private static void tooDeep() {
        RuleBooks x = new RuleBooks();
        x.subject(0);
        for (int i = 0; i < 7; i++) {
            x.book(0);
            x.rule(i, 0, 0);
            if (i > 0) {
                x.does(i, 6, i - 1, 0);
            }
        }
        x.does(0, 1, 77, 0);
        CHECK.due("six runs", x.run(5, 0), 77);
        CHECK.dueText("trace", Check.trace(x), "5/1/1 4/1/2 3/1/3 2/1/4 1/1/5 0/1/6");
        CHECK.due("erred()", x.erred(), 0);
        CHECK.due("seven runs", x.run(6, 0), -11);
        CHECK.due("erred()", x.erred(), 2);
        CHECK.dueText("trace", Check.trace(x), "6/1/1 5/1/2 4/1/3 3/1/4 2/1/5 1/1/6");
        x.does(1, 5, 0, 0);
        CHECK.due("seven runs, following", x.run(6, 0), -11);
        x.condition(1, 1, 0, 1);
        CHECK.due("the seventh does not begin", x.run(6, 0), 0);
        CHECK.due("erred()", x.erred(), 0);
    }

    private static void tooMany() {
        RuleBooks x = new RuleBooks();
        x.subject(0);
        x.book(0);
        x.book(5);
        for (int i = 0; i < 40; i++) {
            x.rule(0, 1, 0);
        }
        for (int i = 0; i < 7; i++) {
            x.does(x.rule(1, 1, 0), 5, 0, 0);
        }
        CHECK.due("7 times 41 are 287", x.run(1, 0), 5);
        CHECK.due("count(9)", x.count(9), 287);
        for (int i = 0; i < 13; i++) {
            CHECK.due("rule of book 1", x.rule(1, 2, 0), 47 + i);
        }
        CHECK.due("300 are looked at", x.run(1, 0), 5);
        CHECK.due("count(9)", x.count(9), 300);
        CHECK.due("erred()", x.erred(), 0);
        CHECK.due("trace(299, 0)", x.trace(299, 0), 59);
        CHECK.due("trace(300, 0)", x.trace(300, 0), -4);
        x.does(59, 5, 0, 0);
        CHECK.due("the 301st is rule 0, in a book that the 300th follows", x.run(1, 0), -10);
        CHECK.due("count(9)", x.count(9), 300);
        CHECK.due("erred()", x.erred(), 3);
        CHECK.due("trace(299, 0)", x.trace(299, 0), 59);
        x.does(59, 0, 0, 0);
        x.does(50, 5, 0, 0);
        x.does(0, 7, 0, 0);
        x.order(0, 1, 0);
        CHECK.due("291 are looked at, then rules 1 to 9; rule 10 errs", x.run(1, 0), -10 - 10);
        CHECK.due("erred()", x.erred(), 3);
        x.order(0, 0, 0);
        CHECK.due("stopping at once", x.run(1, 0), 5);
        CHECK.due("count(9)", x.count(9), 28);
        CHECK.due("erred()", x.erred(), 0);
    }

    private static void traceOfLatest() {
        RuleBooks x = withOneRule();
        x.run(0, 0);
        CHECK.due("trace(0, 0)", x.trace(0, 0), 0);
        CHECK.due("trace(0, 1)", x.trace(0, 1), 1);
        CHECK.due("trace(0, 2)", x.trace(0, 2), 1);
        CHECK.due("trace(0, 3)", x.trace(0, 3), -4);
        CHECK.due("trace(0, -1)", x.trace(0, -1), -4);
        CHECK.due("trace(1, 0)", x.trace(1, 0), -4);
        CHECK.due("trace(-1, 0)", x.trace(-1, 0), -4);
        x.run(1, 0);
        CHECK.due("a refused run leaves the trace", x.count(9), 1);
        x.does(0, 4, 0, 0);
        CHECK.due("an err", x.run(0, 0), -10);
        x.run(0, 1);
        x.act(0, 0);
        x.begin(0, 0);
        x.turn();
        CHECK.due("erred() after calls without a run", x.erred(), 1);
        CHECK.due("count(9) after calls without a run", x.count(9), 1);
        x.book(0);
        CHECK.due("a run of a book without rules", x.run(1, 0), 0);
        CHECK.due("erred()", x.erred(), 0);
        CHECK.due("count(9)", x.count(9), 0);
        CHECK.due("trace(0, 0)", x.trace(0, 0), -4);
    }
}
