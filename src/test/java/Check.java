/** Counts and prints the answers of a test that are not the ones due. */
final class Check {
    private int wrong;

    void due(String call, int got, int want) {
        if (got != want) {
            wrong++;
            System.out.println(call + " answered " + got + ", due is " + want);
        }
    }

    void dueText(String what, String got, String want) {
        if (!got.equals(want)) {
            wrong++;
            System.out.println(what + " is " + got + ", due is " + want);
        }
    }

    void end() {
        if (wrong != 0) {
            System.out.println(wrong + " answers are not as due");
            System.exit(1);
        }
    }

    /** The rules of a book's row, as text. */
    static String row(RuleBooks x, int book) {
        StringBuilder text = new StringBuilder();
        for (int i = 0; x.row(book, i) != RuleBooks.NONE; i++) {
            text.append(i == 0 ? "" : " ").append(x.row(book, i));
        }
        return text.toString();
    }

    /** The trace as text: rule, whether it applied, and the depth, of each row. */
    static String trace(RuleBooks x) {
        StringBuilder text = new StringBuilder();
        for (int i = 0; i < x.count(9); i++) {
            text.append(i == 0 ? "" : " ");
            text.append(x.trace(i, 0)).append('/').append(x.trace(i, 1)).append('/').append(x.trace(i, 2));
        }
        return text.toString();
    }

    /** The events of the latest turn, as text. */
    static String events(RuleBooks x) {
        StringBuilder text = new StringBuilder();
        for (int i = 0; x.event(i) != RuleBooks.NONE; i++) {
            text.append(i == 0 ? "" : " ").append(x.event(i));
        }
        return text.toString();
    }

    /** What all counts are, as text. */
    static String counts(RuleBooks x) {
        StringBuilder text = new StringBuilder();
        for (int what = 0; what <= 10; what++) {
            text.append(what == 0 ? "" : " ").append(x.count(what));
        }
        return text.toString();
    }
}
