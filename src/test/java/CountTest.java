/** Promises 1 and 32. */
public final class CountTest {
    public static void main(String[] args) {
        Check check = new Check();
        RuleBooks x = new RuleBooks();
        check.dueText("a new object", Check.counts(x), "1 0 0 0 0 0 0 0 0 0 0");
        x.kind(0);
        check.dueText("a kind", Check.counts(x), "2 0 0 0 0 0 0 0 0 0 0");
        x.subject(0);
        check.dueText("a subject", Check.counts(x), "2 1 0 0 0 0 0 0 0 0 0");
        x.book(0);
        check.dueText("a book", Check.counts(x), "2 1 1 0 0 0 0 0 0 0 0");
        x.rule(0, 0, 0);
        check.dueText("a rule", Check.counts(x), "2 1 1 1 0 0 0 0 0 0 0");
        x.action(0, 0, 0, 0, 0, 0);
        check.dueText("an action", Check.counts(x), "2 1 1 1 1 0 0 0 0 0 0");
        x.activity(RuleBooks.NONE, 0, 0);
        check.dueText("an activity", Check.counts(x), "2 1 1 1 1 1 0 0 0 0 0");
        x.begin(0, 0);
        check.dueText("an open one", Check.counts(x), "2 1 1 1 1 1 1 0 0 0 0");
        x.scene(0);
        check.dueText("a scene", Check.counts(x), "2 1 1 1 1 1 1 1 0 0 0");
        x.phrase(0, 0, 0);
        check.dueText("a phrase", Check.counts(x), "2 1 1 1 1 1 1 1 1 0 0");
        x.act(0, 0);
        check.dueText("a trace", Check.counts(x), "2 1 1 1 1 1 1 1 1 6 0");
        x.turn();
        x.turn();
        check.dueText("two turns", Check.counts(x), "2 1 1 1 1 1 1 1 1 6 2");
        for (int what : new int[] {-1, 11, Integer.MIN_VALUE, Integer.MAX_VALUE}) {
            check.due("count(" + what + ")", x.count(what), -1);
        }
        RuleBooks y = new RuleBooks();
        check.dueText("another new object", Check.counts(y), "1 0 0 0 0 0 0 0 0 0 0");
        check.end();
    }
}
