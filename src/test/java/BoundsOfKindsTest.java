/** The bounds that chapter 1 of the terms and promises 1 to 6 name. */
public final class BoundsOfKindsTest {
    private static final Check CHECK = new Check();

    public static void main(String[] args) {
        lastPromisedCall();
        newObject();
        numberedFromZero();
        parentToldBefore();
        mostKinds();
        underItself();
        kindOfSubject();
        mostSubjects();
        valuesAtFirst();
        valueNumbers();
        valuesOfAnySize();
        CHECK.end();
    }

    /** "An object is used for at most 512 calls": the 512th one still answers as told. */
    private static void lastPromisedCall() {
        Play play = new Play(CHECK, "512 calls");
        play.say("scene 1 = 0\nanchor 0 0 1 0 = 0\nanchor 0 1 1 0 = 0");
        for (int turn = 1; turn <= 507; turn++) {
            play.say("turn = 2");
        }
        play.say("count 10 = 507\nhappens 0 1 = 507");
        play.end();
    }

    /** Promise 1: "Kind 0 alone." */
    private static void newObject() {
        Play.of(CHECK, "a new object", """
                whole counts = 1 0 0 0 0 0 0 0 0 0 0
                under 0 0 = 1
                under 1 0 = BAD
                under 0 1 = BAD
                subject 1 = BAD
                kind 1 = BAD
                set 0 0 1 = BAD
                value 0 0 = BAD
                variable 0 0 1 = BAD
                rule 0 0 0 = BAD
                condition 0 0 0 0 = BAD
                does 0 0 0 0 = BAD
                order 0 0 0 = BAD
                row 0 0 = BAD
                run 0 0 = BAD
                trace 0 0 = NONE
                erred = 0
                action 0 NONE NONE NONE NONE NONE = BAD
                act 0 0 = BAD
                activity 0 NONE NONE = BAD
                begin 0 0 = BAD
                middle = NO
                finish = NO
                abandon = NO
                anchor 0 0 0 0 = BAD
                everyTurn 0 = BAD
                event 0 = NONE
                happens 0 0 = BAD
                phrase 0 1 0 = BAD
                choose 0 0 0 = BAD
                whole counts = 1 0 0 0 0 0 0 0 0 0 0
                turn = 0
                whole counts = 1 0 0 0 0 0 0 0 0 0 1
                """);
    }

    /** "What there is is numbered from 0 on." */
    private static void numberedFromZero() {
        Play.of(CHECK, "numbers from 0 on", """
                kind 0 = 1           # 0 is there from the beginning
                kind 0 = 2
                subject 0 = 0
                subject 0 = 1
                book 0 = 0
                book 0 = 1
                rule 0 0 0 = 0
                rule 1 0 0 = 1       # of all books in one row of numbers
                action NONE NONE NONE NONE NONE NONE = 0
                action NONE NONE NONE NONE NONE NONE = 1
                activity NONE NONE NONE = 0
                activity NONE NONE NONE = 1
                scene 0 = 0
                scene 0 = 1
                phrase 0 0 0 = 0
                phrase 1 0 0 = 1
                whole counts = 3 2 2 2 2 2 0 2 2 0 0
                """);
    }

    /** "each other one has a PARENT, told before"; promise 2: "BAD: no such parent". */
    private static void parentToldBefore() {
        Play.of(CHECK, "a parent told before", """
                kind -1 = BAD
                kind MIN = BAD
                kind 1 = BAD         # it would be its own parent
                count 0 = 1
                kind 0 = 1
                kind 2 = BAD
                kind MAX = BAD
                kind 1 = 2
                count 0 = 3
                """);
    }

    /** "KINDS (20)"; promise 2: "FULL". */
    private static void mostKinds() {
        Play play = new Play(CHECK, "20 kinds");
        for (int kind = 1; kind < 19; kind++) {
            play.say("kind " + (kind - 1) + " = " + kind);
        }
        play.say("""
                count 0 = 19
                kind 19 = BAD
                kind 18 = 19         # the 20th one
                count 0 = 20
                kind 0 = FULL
                kind 19 = FULL
                kind 20 = BAD        # BAD comes before FULL
                kind -1 = BAD
                count 0 = 20
                under 19 0 = 1       # 19 deep
                under 19 18 = 1
                under 18 19 = 0
                under 19 19 = 1
                under 20 0 = BAD
                under 0 20 = BAD
                """);
        play.end();
    }

    /** "A kind is UNDER itself, and under all that its parent is under"; promise 3: "1, 0. BAD." */
    private static void underItself() {
        Play.of(CHECK, "under", """
                kind 0 = 1
                kind 1 = 2
                kind 1 = 3
                kind 0 = 4
                under 0 0 = 1
                under 2 2 = 1        # itself
                under 2 1 = 1        # its parent
                under 2 0 = 1        # its parent's parent
                under 2 3 = 0        # the parent's other one, of the same DEEP
                under 3 2 = 0
                under 1 2 = 0        # the other way
                under 0 1 = 0
                under 2 4 = 0        # of less DEEP, but no parent
                under 1 4 = 0
                under 4 4 = 1
                under 5 0 = BAD
                under 0 5 = BAD
                under 5 5 = BAD
                under -1 0 = BAD
                under 0 -1 = BAD
                under MIN MAX = BAD
                """);
    }

    /** Promise 4: "BAD: no such kind". */
    private static void kindOfSubject() {
        Play.of(CHECK, "a subject's kind", """
                subject -1 = BAD
                subject 1 = BAD
                subject MIN = BAD
                count 1 = 0
                subject 0 = 0
                kind 0 = 1
                subject 1 = 1
                subject 2 = BAD
                subject MAX = BAD
                count 1 = 2
                phrase 0 1 0 = 0     # which kinds they have
                choose 0 1 0 = 0
                choose 0 0 1 = NONE
                """);
    }

    /** "SUBJECTS (20)"; promise 4: "FULL". */
    private static void mostSubjects() {
        Play play = new Play(CHECK, "20 subjects");
        for (int subject = 0; subject < 19; subject++) {
            play.say("subject 0 = " + subject);
        }
        play.say("""
                count 1 = 19
                value 19 0 = BAD
                set 19 0 1 = BAD
                subject 0 = 19       # the 20th one
                subject 0 = FULL
                subject 1 = BAD      # BAD comes before FULL
                subject -1 = BAD
                count 1 = 20
                set 19 3 5 = 0
                value 19 3 = 5
                value 18 3 = 0
                set 20 3 5 = BAD
                value 20 3 = BAD
                """);
        play.end();
    }

    /** "VALUES 0 .. 3, 0 at first". */
    private static void valuesAtFirst() {
        Play.of(CHECK, "values at first", """
                subject 0 = 0
                value 0 0 = 0
                value 0 1 = 0
                value 0 2 = 0
                value 0 3 = 0
                set 0 0 11 = 0
                set 0 3 14 = 0
                subject 0 = 1
                value 1 0 = 0
                value 1 3 = 0
                value 0 0 = 11
                value 0 1 = 0
                value 0 2 = 0
                value 0 3 = 14
                """);
    }

    /** Promises 5, 6: "BAD: no such subject, value". */
    private static void valueNumbers() {
        Play.of(CHECK, "values 0 .. 3", """
                subject 0 = 0
                subject 0 = 1
                set 0 -1 9 = BAD
                set 0 4 9 = BAD
                set 0 MIN 9 = BAD
                set 0 MAX 9 = BAD
                set -1 0 9 = BAD
                set 2 0 9 = BAD
                set MIN 0 9 = BAD
                set MAX 0 9 = BAD
                set -1 -1 9 = BAD
                value 0 -1 = BAD
                value 0 4 = BAD
                value 0 MIN = BAD
                value 0 MAX = BAD
                value -1 0 = BAD
                value 2 0 = BAD
                value MIN 0 = BAD
                value MAX 0 = BAD
                set 0 0 1 = 0
                set 0 3 2 = 0
                set 1 0 3 = 0
                set 1 3 4 = 0
                set 1 4 9 = BAD
                set 2 3 9 = BAD
                value 0 0 = 1
                value 0 3 = 2
                value 1 0 = 3
                value 1 3 = 4
                """);
    }

    /** Promises 5, 6: "what it was", "(it may be BAD, too)". */
    private static void valuesOfAnySize() {
        Play.of(CHECK, "a value's size", """
                subject 0 = 0
                set 0 2 MAX = 0
                value 0 2 = MAX
                set 0 2 MIN = MAX
                value 0 2 = MIN
                set 0 2 -1 = MIN
                value 0 2 = -1       # which is BAD, but is the value
                set 0 2 -2 = -1      # which is BAD, but the value has become -2
                value 0 2 = -2
                set 0 2 -3 = -2
                set 0 2 0 = -3
                value 0 2 = 0
                value 0 1 = 0
                value 0 3 = 0
                """);
    }
}
