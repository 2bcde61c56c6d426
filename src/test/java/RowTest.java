/** Promise 13, and how conditions (10) and orders (12) change the row. */
public final class RowTest {
    private static final Check CHECK = new Check();

    public static void main(String[] args) {
        wrongInputs();
        byRank();
        byDeep();
        eachOrder();
        ordersInTime();
        newOrderTakesThePlace();
        goneRules();
        CHECK.end();
    }

    private static RuleBooks withRules(int rules) {
        RuleBooks x = new RuleBooks();
        x.book(0);
        for (int i = 0; i < rules; i++) {
            x.rule(0, 1, 0);
        }
        return x;
    }

    private static void wrongInputs() {
        RuleBooks x = new RuleBooks();
        CHECK.due("row(0, 0) without a book", x.row(0, 0), -1);
        x.book(0);
        CHECK.due("row(0, 0) without a rule", x.row(0, 0), -4);
        x.rule(0, 0, 0);
        CHECK.due("row(0, 0)", x.row(0, 0), 0);
        CHECK.due("row(0, 1)", x.row(0, 1), -4);
        CHECK.due("row(0, -1)", x.row(0, -1), -4);
        CHECK.due("row(0, MAX)", x.row(0, Integer.MAX_VALUE), -4);
        CHECK.due("row(1, 0)", x.row(1, 0), -1);
        CHECK.due("row(-1, 0)", x.row(-1, 0), -1);
        CHECK.due("row(1, -1), BAD", x.row(1, -1), -1);
    }

    private static void byRank() {
        RuleBooks x = new RuleBooks();
        x.book(0);
        x.book(0);
        x.rule(0, 2, 9);
        x.rule(0, 1, 0);
        x.rule(0, 1, 9);
        x.rule(1, 0, 0);
        x.rule(0, 0, 0);
        x.rule(0, 1, 9);
        x.rule(0, 1, 3);
        CHECK.dueText("by sections, then special, then numbers", Check.row(x, 0), "4 2 5 6 1 0");
        x.condition(5, 1, 0, 0);
        CHECK.dueText("a condition more", Check.row(x, 0), "4 5 2 6 1 0");
        x.condition(6, 1, 0, 0);
        x.condition(6, 1, 0, 0);
        CHECK.dueText("special goes before conditions", Check.row(x, 0), "4 5 2 6 1 0");
        x.condition(2, 11, 0, 0);
        CHECK.dueText("like ones by numbers again", Check.row(x, 0), "4 2 5 6 1 0");
        x.condition(5, 16, 4, 0);
        CHECK.dueText("two conditions", Check.row(x, 0), "4 5 2 6 1 0");
        CHECK.dueText("the other book", Check.row(x, 1), "3");
    }

    private static void byDeep() {
        RuleBooks x = withRules(5);
        x.kind(0);
        x.kind(1);
        x.kind(2);
        x.condition(0, 0, 0, 0);
        x.condition(1, 10, 3, 0);
        x.condition(2, 0, 1, 0);
        x.condition(3, 0, 3, 0);
        x.condition(4, 0, 2, 0);
        CHECK.dueText("by deep, but not of 10", Check.row(x, 0), "3 4 2 0 1");
        for (int i = 0; i < 5; i++) {
            x.condition(i, 0, i == 2 ? 3 : 0, 0);
        }
        CHECK.dueText("by the sum of deeps", Check.row(x, 0), "2 3 4 0 1");
        x.condition(0, 1, 0, 0);
        CHECK.dueText("conditions go before deeps", Check.row(x, 0), "0 2 3 4 1");
    }

    private static void eachOrder() {
        String[] due = {"3 0 1 2 4", "0 1 2 4 3", "0 3 1 2 4", "0 1 3 2 4", "0 3 2 4", "0 1 2 4"};
        for (int how = 0; how < 6; how++) {
            RuleBooks x = withRules(5);
            x.order(3, how, 1);
            CHECK.dueText("rule 3, how " + how + ", of 1", Check.row(x, 0), due[how]);
        }
        String[] dueForward = {"1 0 2 3 4", "0 2 3 4 1", "0 2 1 3 4", "0 2 3 1 4", "0 2 1 4", "0 2 3 4"};
        for (int how = 0; how < 6; how++) {
            RuleBooks x = withRules(5);
            x.order(1, how, 3);
            CHECK.dueText("rule 1, how " + how + ", of 3", Check.row(x, 0), dueForward[how]);
        }
    }

    private static void ordersInTime() {
        RuleBooks x = withRules(4);
        x.order(1, 0, 0);
        x.order(2, 0, 0);
        CHECK.dueText("first, and first again", Check.row(x, 0), "2 1 0 3");
        x.order(1, 0, 0);
        CHECK.dueText("a new one counts as told then", Check.row(x, 0), "1 2 0 3");
        x.order(3, 2, 2);
        x.order(2, 1, 0);
        CHECK.dueText("before 2 at the time, and 2 goes last", Check.row(x, 0), "1 0 3 2");
        x.order(1, 3, 2);
        CHECK.dueText("behind 2", Check.row(x, 0), "0 3 2 1");
        x.rule(0, 0, 0);
        CHECK.dueText("a new rule of an earlier section", Check.row(x, 0), "4 0 3 2 1");
        x.order(1, 5, 0);
        CHECK.dueText("unlisted", Check.row(x, 0), "4 0 3 2");
        x.order(1, 4, 4);
        CHECK.dueText("instead of the first", Check.row(x, 0), "1 0 3 2");
    }

    private static void newOrderTakesThePlace() {
        RuleBooks x = withRules(4);
        x.order(3, 0, 0);
        x.order(1, 2, 3);
        CHECK.dueText("1 before 3, which is first", Check.row(x, 0), "1 3 0 2");
        x.order(3, 5, 0);
        CHECK.dueText("1 before 3, where that stood then, and just later 3 goes", Check.row(x, 0), "0 2 1");
        x.order(3, 1, 0);
        CHECK.dueText("the same, but 3 is last", Check.row(x, 0), "0 2 1 3");
    }

    private static void goneRules() {
        RuleBooks x = withRules(4);
        x.order(0, 5, 0);
        x.order(1, 2, 0);
        CHECK.dueText("before one that is gone", Check.row(x, 0), "1 2 3");
        x.order(1, 3, 0);
        CHECK.dueText("behind one that is gone", Check.row(x, 0), "1 2 3");
        x.order(1, 4, 0);
        CHECK.dueText("instead of one that is gone", Check.row(x, 0), "1 2 3");
        x.order(2, 4, 3);
        CHECK.dueText("instead of 3", Check.row(x, 0), "1 2");
        x.order(3, 0, 0);
        CHECK.dueText("3 is gone, whatever its order", Check.row(x, 0), "1 2");
        x.order(2, 1, 0);
        CHECK.dueText("3 is back, as no one stands instead", Check.row(x, 0), "3 1 2");
        x.order(0, 3, 3);
        CHECK.dueText("0 is gone now as 1 stands instead", Check.row(x, 0), "3 1 2");
        x.order(1, 1, 0);
        CHECK.dueText("0 is back", Check.row(x, 0), "3 0 2 1");
        x.order(3, 5, 0);
        x.order(0, 4, 1);
        x.order(1, 4, 0);
        CHECK.dueText("1 is gone, so it does not stand instead", Check.row(x, 0), "0 2");
        x.order(2, 5, 0);
        x.order(0, 5, 0);
        x.order(1, 5, 0);
        CHECK.due("an empty row", x.row(0, 0), -4);
    }
}
