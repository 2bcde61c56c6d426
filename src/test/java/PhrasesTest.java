/** Promises 30 and 31. */
public final class PhrasesTest {
    private static final Check CHECK = new Check();

    public static void main(String[] args) {
        phrases();
        mostPhrases();
        chooseByKinds();
        names();
        wrongInputs();
        CHECK.end();
    }

    private static void phrases() {
        RuleBooks x = new RuleBooks();
        x.kind(0);
        CHECK.due("phrase(0, 0, 0)", x.phrase(0, 0, 0), 0);
        CHECK.due("phrase(0, 0, 0) again", x.phrase(0, 0, 0), -2);
        CHECK.due("phrase(9, 1, 0)", x.phrase(9, 1, 0), 1);
        CHECK.due("the same again", x.phrase(9, 1, 0), -2);
        CHECK.due("the kinds the other way", x.phrase(9, 0, 1), 2);
        CHECK.due("another name", x.phrase(8, 1, 0), 3);
        CHECK.due("phrase(-1, 0, 0)", x.phrase(-1, 0, 0), -1);
        CHECK.due("phrase(10, 0, 0)", x.phrase(10, 0, 0), -1);
        CHECK.due("phrase(0, 2, 0)", x.phrase(0, 2, 0), -1);
        CHECK.due("phrase(0, -1, 0)", x.phrase(0, -1, 0), -1);
        CHECK.due("phrase(0, 0, 2)", x.phrase(0, 0, 2), -1);
        CHECK.due("phrase(0, 0, -1)", x.phrase(0, 0, -1), -1);
        CHECK.due("count(8)", x.count(8), 4);
    }

    private static void mostPhrases() {
        RuleBooks x = new RuleBooks();
        for (int i = 0; i < 19; i++) {
            x.kind(i);
        }
        x.subject(19);
        for (int i = 0; i < 40; i++) {
            CHECK.due("phrase", x.phrase(3, i / 2, i % 2), i);
        }
        CHECK.due("the 41st", x.phrase(3, 19, 19), -3);
        CHECK.due("NO before FULL", x.phrase(3, 19, 1), -2);
        CHECK.due("BAD before NO and FULL", x.phrase(3, 20, 1), -1);
        CHECK.due("count(8) when full", x.count(8), 40);
        CHECK.due("the most special of all", x.choose(3, 0, 0), 39);
    }

    private static void chooseByKinds() {
        RuleBooks x = new RuleBooks();
        x.kind(0);
        x.kind(1);
        x.kind(0);
        for (int kind = 0; kind < 4; kind++) {
            x.subject(kind);
        }
        CHECK.due("none is there", x.choose(0, 2, 2), -4);
        x.phrase(0, 2, 1);
        CHECK.due("meant", x.choose(0, 2, 1), 0);
        CHECK.due("meant by what is under", x.choose(0, 2, 2), 0);
        CHECK.due("the first kind is not", x.choose(0, 1, 2), -4);
        CHECK.due("the second kind is not", x.choose(0, 2, 3), -4);
        x.phrase(0, 1, 2);
        CHECK.due("none is the most special", x.choose(0, 2, 2), -5);
        CHECK.due("one alone is meant", x.choose(0, 2, 1), 0);
        CHECK.due("the other one alone is meant", x.choose(0, 1, 2), 1);
        x.phrase(0, 0, 0);
        CHECK.due("a lesser one does not help", x.choose(0, 2, 2), -5);
        CHECK.due("the lesser one alone is meant", x.choose(0, 3, 3), 2);
        x.phrase(0, 2, 2);
        CHECK.due("the most special", x.choose(0, 2, 2), 3);
        x.phrase(0, 1, 1);
        CHECK.due("the most special still", x.choose(0, 2, 2), 3);
        CHECK.due("of two", x.choose(0, 1, 1), 4);
        CHECK.due("of three", x.choose(0, 2, 1), 0);
    }

    private static void names() {
        RuleBooks x = new RuleBooks();
        x.kind(0);
        x.subject(1);
        x.phrase(4, 0, 1);
        x.phrase(5, 1, 0);
        x.phrase(9, 1, 1);
        x.phrase(0, 0, 0);
        CHECK.due("name 4", x.choose(4, 0, 0), 0);
        CHECK.due("name 5", x.choose(5, 0, 0), 1);
        CHECK.due("name 9", x.choose(9, 0, 0), 2);
        CHECK.due("name 0", x.choose(0, 0, 0), 3);
        CHECK.due("name 1", x.choose(1, 0, 0), -4);
    }

    private static void wrongInputs() {
        RuleBooks x = new RuleBooks();
        x.phrase(0, 0, 0);
        CHECK.due("choose without subjects", x.choose(0, 0, 0), -1);
        x.subject(0);
        CHECK.due("choose(0, 0, 0)", x.choose(0, 0, 0), 0);
        CHECK.due("choose(-1, 0, 0)", x.choose(-1, 0, 0), -1);
        CHECK.due("choose(10, 0, 0)", x.choose(10, 0, 0), -1);
        CHECK.due("choose(0, 1, 0)", x.choose(0, 1, 0), -1);
        CHECK.due("choose(0, 0, 1)", x.choose(0, 0, 1), -1);
        CHECK.due("choose(0, -1, 0)", x.choose(0, -1, 0), -1);
        CHECK.due("choose(0, 0, -1)", x.choose(0, 0, -1), -1);
    }
}
