/** Promises 7 to 12: what is told of books and rules, and what is refused. */
public final class BooksAndRulesTest {
    private static final Check CHECK = new Check();

    public static void main(String[] args) {
        books();
        mostBooks();
        variables();
        variablesAtFirst();
        rules();
        mostRules();
        conditions();
        refusedConditions();
        deeds();
        orders();
        CHECK.end();
    }

    private static void books() {
        RuleBooks x = new RuleBooks();
        x.subject(0);
        CHECK.due("book(-1)", x.book(-1), -1);
        CHECK.due("book(100)", x.book(100), -1);
        CHECK.due("count(2) after refusals", x.count(2), 0);
        CHECK.due("book(0)", x.book(0), 0);
        CHECK.due("book(99)", x.book(99), 1);
        CHECK.due("run(0, 0), the default", x.run(0, 0), 0);
        CHECK.due("run(1, 0), the default", x.run(1, 0), 99);
    }

    private static void mostBooks() {
        RuleBooks x = new RuleBooks();
        x.subject(0);
        for (int i = 0; i < 12; i++) {
            CHECK.due("book(" + i + ")", x.book(i), i);
        }
        CHECK.due("book(0), the 13th", x.book(0), -3);
        CHECK.due("book(100), BAD before FULL", x.book(100), -1);
        CHECK.due("count(2) when full", x.count(2), 12);
        CHECK.due("run(11, 0)", x.run(11, 0), 11);
        CHECK.due("run(12, 0)", x.run(12, 0), -1);
    }

    private static void variables() {
        RuleBooks x = new RuleBooks();
        x.subject(0);
        CHECK.due("variable(0, 0, 1) without a book", x.variable(0, 0, 1), -1);
        x.book(0);
        x.book(0);
        for (int i = 0; i < 4; i++) {
            CHECK.due("variable(1, " + i + ", ..)", x.variable(1, i, 20 + i), 0);
        }
        CHECK.due("variable(1, 2, 7), in place of the first", x.variable(1, 2, 7), 0);
        CHECK.due("variable(1, 4, 1)", x.variable(1, 4, 1), -1);
        CHECK.due("variable(1, -1, 1)", x.variable(1, -1, 1), -1);
        CHECK.due("variable(2, 0, 1)", x.variable(2, 0, 1), -1);
        CHECK.due("variable(-1, 0, 1)", x.variable(-1, 0, 1), -1);
        CHECK.due("variable(-4, 0, 1)", x.variable(-4, 0, 1), -1);
        x.rule(1, 0, 0);
        x.does(0, 1, 9, 0);
        x.condition(0, 3, 0, 20);
        x.condition(0, 3, 1, 21);
        x.condition(0, 3, 2, 7);
        x.condition(0, 3, 3, 23);
        CHECK.due("run with first numbers", x.run(1, 0), 9);
        x.variable(0, 0, 1);
        CHECK.due("run with another book's changed", x.run(1, 0), 9);
        x.variable(1, 3, Integer.MIN_VALUE);
        CHECK.due("run with other first numbers", x.run(1, 0), 0);
    }

    private static void variablesAtFirst() {
        RuleBooks x = new RuleBooks();
        x.subject(0);
        x.book(3);
        x.rule(0, 0, 0);
        x.does(0, 1, 9, 0);
        for (int i = 0; i < 4; i++) {
            x.condition(0, 3, i, 0);
        }
        CHECK.due("run with numbers 0", x.run(0, 0), 9);
        x.variable(0, 1, 1);
        CHECK.due("run with another number", x.run(0, 0), 3);
    }

    private static void rules() {
        RuleBooks x = new RuleBooks();
        CHECK.due("rule(0, 0, 0) without a book", x.rule(0, 0, 0), -1);
        x.book(0);
        CHECK.due("rule(-1, 0, 0)", x.rule(-1, 0, 0), -1);
        CHECK.due("rule(1, 0, 0)", x.rule(1, 0, 0), -1);
        CHECK.due("rule(0, -1, 0)", x.rule(0, -1, 0), -1);
        CHECK.due("rule(0, 3, 0)", x.rule(0, 3, 0), -1);
        CHECK.due("rule(0, 0, -1)", x.rule(0, 0, -1), -1);
        CHECK.due("rule(0, 0, 10)", x.rule(0, 0, 10), -1);
        CHECK.due("count(3) after refusals", x.count(3), 0);
        CHECK.dueText("row after refusals", Check.row(x, 0), "");
        CHECK.due("rule(0, 2, 9)", x.rule(0, 2, 9), 0);
        CHECK.due("rule(0, 0, 0)", x.rule(0, 0, 0), 1);
        CHECK.due("count(3)", x.count(3), 2);
    }

    private static void mostRules() {
        RuleBooks x = new RuleBooks();
        x.book(0);
        x.book(0);
        for (int i = 0; i < 60; i++) {
            CHECK.due("rule(" + i % 2 + ", 0, 0)", x.rule(i % 2, 0, 0), i);
        }
        CHECK.due("rule(0, 0, 0), the 61st", x.rule(0, 0, 0), -3);
        CHECK.due("rule(0, 3, 0), BAD before FULL", x.rule(0, 3, 0), -1);
        CHECK.due("rule(2, 0, 0), BAD before FULL", x.rule(2, 0, 0), -1);
        CHECK.due("count(3) when full", x.count(3), 60);
        CHECK.due("row(1, 29)", x.row(1, 29), 59);
        CHECK.due("row(1, 30)", x.row(1, 30), -4);
        CHECK.due("order(59, 0, 0)", x.order(59, 0, 0), 0);
        CHECK.due("row(1, 0)", x.row(1, 0), 59);
        CHECK.due("condition(59, 6, 57, 0)", x.condition(59, 6, 57, 0), 1);
        CHECK.due("condition(60, 0, 0, 0)", x.condition(60, 0, 0, 0), -1);
    }

    private static void conditions() {
        RuleBooks x = new RuleBooks();
        x.book(0);
        x.scene(0);
        int[] codes = {0, 1, 2, 3, 4, 5, 6, 10, 11, 12, 13, 14, 15, 16};
        for (int i = 0; i < codes.length; i++) {
            x.rule(0, 0, 0);
            CHECK.due("condition(.., " + codes[i] + ", 0, 9)", x.condition(i, codes[i], 0, 9), 1);
        }
        CHECK.due("condition of the rule itself", x.condition(3, 6, 3, 0), 2);
        CHECK.due("a third one", x.condition(3, 0, 0, Integer.MIN_VALUE), 3);
        CHECK.due("a fourth one", x.condition(3, 14, 3, Integer.MAX_VALUE), 4);
        CHECK.due("a fifth one", x.condition(3, 0, 0, 0), -3);
        CHECK.due("BAD before FULL", x.condition(3, 7, 0, 0), -1);
        CHECK.due("BAD x before FULL", x.condition(3, 0, 1, 0), -1);
        CHECK.due("another rule still has room", x.condition(4, 0, 0, 0), 2);
    }

    private static void refusedConditions() {
        RuleBooks x = new RuleBooks();
        x.kind(0);
        x.book(0);
        x.book(0);
        x.scene(0);
        CHECK.due("condition without a rule", x.condition(0, 0, 0, 0), -1);
        x.rule(0, 0, 0);
        x.rule(1, 0, 0);
        int[] none = {-1, 7, 8, 9, 17, 18, 19, 20, 26, 100, Integer.MIN_VALUE, Integer.MAX_VALUE};
        for (int code : none) {
            CHECK.due("condition(0, " + code + ", 0, 0)", x.condition(0, code, 0, 0), -1);
        }
        CHECK.due("condition(-1, 0, 0, 0)", x.condition(-1, 0, 0, 0), -1);
        CHECK.due("condition(2, 0, 0, 0)", x.condition(2, 0, 0, 0), -1);
        for (int more = 0; more <= 10; more += 10) {
            CHECK.due("no kind 2", x.condition(0, more, 2, 0), -1);
            CHECK.due("no kind -1", x.condition(0, more, -1, 0), -1);
            for (int code = 1; code <= 4; code++) {
                CHECK.due("no slot 4", x.condition(0, more + code, 4, 0), -1);
                CHECK.due("no slot -1", x.condition(0, more + code, -1, 0), -1);
            }
            CHECK.due("no scene 1", x.condition(0, more + 5, 1, 0), -1);
            CHECK.due("no scene -1", x.condition(0, more + 5, -1, 0), -1);
            CHECK.due("rule 1 is of another book", x.condition(0, more + 6, 1, 0), -1);
            CHECK.due("no rule 2", x.condition(0, more + 6, 2, 0), -1);
            CHECK.due("no rule -1", x.condition(0, more + 6, -1, 0), -1);
        }
        CHECK.due("the first one after all refusals", x.condition(0, 0, 1, 0), 1);
        CHECK.due("slot 3 is there", x.condition(0, 4, 3, 0), 2);
    }

    private static void deeds() {
        RuleBooks x = new RuleBooks();
        x.book(0);
        x.book(0);
        CHECK.due("does without a rule", x.does(0, 0, 0, 0), -1);
        x.rule(0, 0, 0);
        int wild = Integer.MIN_VALUE;
        int[][] fine = {
            {0, wild, wild}, {1, 1, wild}, {1, 99, wild}, {2, 0, wild}, {2, 3, wild}, {3, 0, wild},
            {3, 3, wild}, {4, 0, 3}, {4, 3, 0}, {5, 0, wild}, {5, 1, wild}, {6, 0, wild}, {6, 1, wild},
            {7, wild, wild}, {8, 0, 3}, {8, 3, 0}};
        for (int[] deed : fine) {
            CHECK.due("does(0, " + deed[0] + ", " + deed[1] + ", " + deed[2] + ")",
                    x.does(0, deed[0], deed[1], deed[2]), 0);
        }
        int[][] bad = {
            {-1, 0, 0}, {9, 0, 0}, {10, 0, 0}, {wild, 0, 0}, {1, 0, 0}, {1, 100, 0}, {1, -1, 0}, {2, -1, 0},
            {2, 4, 0}, {3, -1, 0}, {3, 4, 0}, {4, -1, 0}, {4, 4, 0}, {4, 0, -1}, {4, 0, 4}, {5, 2, 0},
            {5, -1, 0}, {5, -4, 0}, {6, 2, 0}, {6, -1, 0}, {6, -4, 0}, {8, -1, 0}, {8, 4, 0}, {8, 0, -1},
            {8, 0, 4}};
        x.subject(0);
        x.does(0, 1, 50, 0);
        for (int[] deed : bad) {
            CHECK.due("does(0, " + deed[0] + ", " + deed[1] + ", " + deed[2] + ")",
                    x.does(0, deed[0], deed[1], deed[2]), -1);
        }
        CHECK.due("does(-1, 0, 0, 0)", x.does(-1, 0, 0, 0), -1);
        CHECK.due("does(1, 0, 0, 0)", x.does(1, 0, 0, 0), -1);
        CHECK.due("run after refusals", x.run(0, 0), 50);
        x.does(0, 1, 51, 0);
        CHECK.due("run with the new one", x.run(0, 0), 51);
        x.does(0, 0, 0, 0);
        CHECK.due("run with nothing", x.run(0, 0), 0);
    }

    private static void orders() {
        RuleBooks x = new RuleBooks();
        x.book(0);
        x.book(0);
        CHECK.due("order without a rule", x.order(0, 0, 0), -1);
        x.rule(0, 0, 0);
        x.rule(0, 0, 0);
        x.rule(1, 0, 0);
        CHECK.due("order(-1, 0, 0)", x.order(-1, 0, 0), -1);
        CHECK.due("order(3, 0, 0)", x.order(3, 0, 0), -1);
        CHECK.due("order(0, -1, 1)", x.order(0, -1, 1), -1);
        CHECK.due("order(0, 6, 1)", x.order(0, 6, 1), -1);
        for (int how = 2; how <= 4; how++) {
            CHECK.due("about itself, how " + how, x.order(1, how, 1), -1);
            CHECK.due("about another book's, how " + how, x.order(1, how, 2), -1);
            CHECK.due("about none, how " + how, x.order(1, how, 3), -1);
            CHECK.due("about -1, how " + how, x.order(1, how, -1), -1);
            CHECK.dueText("row after refusals", Check.row(x, 0), "0 1");
        }
        CHECK.due("first, with any other", x.order(1, 0, -99), 0);
        CHECK.dueText("row", Check.row(x, 0), "1 0");
        CHECK.due("a refused order", x.order(1, 3, 2), -1);
        CHECK.dueText("the one that it had stays", Check.row(x, 0), "1 0");
        CHECK.due("last, with any other", x.order(1, 1, 2), 0);
        CHECK.dueText("row", Check.row(x, 0), "0 1");
        CHECK.due("unlisted, with any other", x.order(1, 5, 1), 0);
        CHECK.dueText("row", Check.row(x, 0), "0");
        CHECK.due("before", x.order(1, 2, 0), 0);
        CHECK.dueText("row", Check.row(x, 0), "1 0");
        CHECK.dueText("row of the other book", Check.row(x, 1), "2");
    }
}
