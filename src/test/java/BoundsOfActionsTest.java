/** The bounds that chapter 4 of the terms and promises 17 to 23 name. */
public final class BoundsOfActionsTest {
    private static final Check CHECK = new Check();

    public static void main(String[] args) {
        booksOf("action", 6, 4);
        mostActions();
        whoActs();
        outcomesOfStages();
        stagesWithoutABook();
        errsOfStages();
        booksOf("activity", 3, 5);
        mostActivities();
        whatBegins();
        mostOpen();
        oneMoreThanOnce();
        errsOfActivities();
        errAtTheLastPlace();
        noneIsOpen();
        finishedWhateverComes();
        abandonedWithoutARun();
        partsWithoutABook();
        CHECK.end();
    }

    /** Promises 17 and 19: "of six books", "of three books", "(NONE: none)", "BAD: no such books". */
    private static void booksOf(String call, int places, int counted) {
        for (int place = 0; place < places; place++) {
            Play play = new Play(CHECK, call + ", book " + place);
            String before = call + " NONE".repeat(place) + " ";
            String behind = " NONE".repeat(places - 1 - place) + " = ";
            play.say(before + "0" + behind + "BAD");
            play.say("book 0 = 0\nbook 0 = 1");
            for (String wrong : new String[] {"-1", "-2", "-3", "-5", "2", "MIN", "MAX"}) {
                play.say(before + wrong + behind + "BAD");
            }
            play.say("count " + counted + " = 0");
            play.say(before + "0" + behind + "0");
            play.say(before + "1" + behind + "1");
            play.say(before + "NONE" + behind + "2");
            play.say(before + "2" + behind + "BAD");
            play.say("count " + counted + " = 3");
            play.end();
        }
    }

    /** "ACTIONS (8)"; promise 17: "FULL". */
    private static void mostActions() {
        Play play = new Play(CHECK, "8 actions");
        play.say("subject 0 = 0\nbook 0 = 0\nrule 0 0 0 = 0\ndoes 0 1 5 0 = 0");
        for (int action = 0; action < 7; action++) {
            play.say("action NONE NONE NONE NONE NONE NONE = " + action);
        }
        play.say("""
                count 4 = 7
                act 7 0 = BAD
                action NONE NONE NONE NONE 0 NONE = 7    # the 8th one
                action 0 0 0 0 0 0 = FULL
                action NONE NONE NONE NONE NONE NONE = FULL
                action 0 0 0 0 0 1 = BAD                 # BAD comes before FULL
                action -1 0 0 0 0 0 = BAD
                count 4 = 8
                act 7 0 = 505
                act 6 0 = 0
                act 0 0 = 0
                act 8 0 = BAD
                """);
        play.end();
    }

    /** Promise 18: "BAD: no such action, subject". */
    private static void whoActs() {
        Play.of(CHECK, "an action and a subject", """
                act 0 0 = BAD
                subject 0 = 0
                act 0 0 = BAD
                book 0 = 0
                rule 0 0 0 = 0
                does 0 3 0 7 = 0
                action 0 NONE NONE NONE NONE NONE = 0
                act -1 0 = BAD
                act 1 0 = BAD
                act NONE 0 = BAD
                act MIN 0 = BAD
                act MAX 0 = BAD
                act 0 -1 = BAD
                act 0 1 = BAD
                act 0 MIN = BAD
                act 0 MAX = BAD
                value 0 0 = 0
                count 9 = 0
                subject 0 = 1
                act 0 1 = 0
                value 1 0 = 7
                value 0 0 = 0
                act 0 2 = BAD
                """);
    }

    /** "with an OUTCOME in another stage than 3 and 5 it ends there"; "100 times (the stage and 1)". */
    private static void outcomesOfStages() {
        for (int stage = 0; stage < 6; stage++) {
            for (int outcome : new int[] {1, 99}) {
                Play play = new Play(CHECK, "outcome " + outcome + " in stage " + stage);
                play.say("subject 0 = 0");
                for (int book = 0; book < 6; book++) {
                    play.say("book 99 = " + book + "\nrule " + book + " 0 0 = " + book);
                }
                play.say("action 0 1 2 3 4 5 = 0\nact 0 0 = 0\ncount 9 = 6      # no outcome, but defaults");
                boolean goesOn = stage == 3 || stage == 5;
                play.say("does " + stage + " 1 " + outcome + " 0 = 0");
                play.say("act 0 0 = " + (goesOn ? 0 : 100 * (stage + 1) + outcome));
                play.say("count 9 = " + (goesOn ? 6 : stage + 1));
                play.say("trace " + stage + " 0 = " + stage);
                play.say("does " + stage + " 7 0 0 = 0\nact 0 0 = 0\ncount 9 = 6      # a stop is no outcome");
                play.end();
            }
        }
    }

    /** "a book, or none, for each STAGE". */
    private static void stagesWithoutABook() {
        Play.of(CHECK, "stages without a book", """
                subject 0 = 0
                book 9 = 0
                rule 0 0 0 = 0
                does 0 1 7 0 = 0
                action NONE NONE NONE NONE NONE NONE = 0
                action NONE NONE NONE NONE NONE 0 = 1
                action NONE NONE NONE 0 NONE NONE = 2
                action NONE NONE NONE 0 0 0 = 3
                act 0 0 = 0
                count 9 = 0
                act 1 0 = 0
                count 9 = 1
                act 2 0 = 0
                count 9 = 1
                act 3 0 = 507            # carry out goes on, after does not
                count 9 = 2
                """);
    }

    /** Promise 18: "-10 less the rule that ERRS": it does, in 3 and 5 as well. */
    private static void errsOfStages() {
        for (int stage = 0; stage < 6; stage++) {
            Play play = new Play(CHECK, "an err in stage " + stage);
            play.say("subject 0 = 0");
            for (int book = 0; book < 6; book++) {
                play.say("book 0 = " + book + "\nrule " + book + " 0 0 = " + book + "\ndoes " + book + " 3 0 " + book
                        + " = 0");
            }
            play.say("does " + stage + " 4 0 0 = 0\naction 0 1 2 3 4 5 = 0");
            play.say("act 0 0 = " + (-10 - stage) + "\nerred = 1\ncount 9 = " + (stage + 1));
            play.say("value 0 0 = " + Math.max(0, stage - 1));
            play.say("variable " + stage + " 0 1 = 0\nact 0 0 = 0\nerred = 0\ncount 9 = 6");
            play.end();
        }
    }

    /** "ACTIVITIES (6)"; promise 19: "FULL". */
    private static void mostActivities() {
        Play play = new Play(CHECK, "6 activities");
        play.say("subject 0 = 0\nbook 33 = 0");
        for (int activity = 0; activity < 5; activity++) {
            play.say("activity NONE NONE NONE = " + activity);
        }
        play.say("""
                count 5 = 5
                begin 5 0 = BAD
                activity 0 NONE NONE = 5     # the 6th one
                activity 0 0 0 = FULL
                activity NONE NONE NONE = FULL
                activity NONE NONE 1 = BAD   # BAD comes before FULL
                activity -1 0 0 = BAD
                count 5 = 6
                begin 5 0 = 33
                begin 0 0 = 0
                begin 6 0 = BAD
                abandon = 0
                abandon = 5
                """);
        play.end();
    }

    /** Promise 20: "BAD: no such activity, subject". */
    private static void whatBegins() {
        Play.of(CHECK, "an activity and a subject", """
                begin 0 0 = BAD
                subject 0 = 0
                begin 0 0 = BAD
                book 0 = 0
                rule 0 0 0 = 0
                does 0 3 0 7 = 0
                activity 0 NONE NONE = 0
                begin -1 0 = BAD
                begin 1 0 = BAD
                begin NONE 0 = BAD
                begin MIN 0 = BAD
                begin MAX 0 = BAD
                begin 0 -1 = BAD
                begin 0 1 = BAD
                begin 0 MIN = BAD
                begin 0 MAX = BAD
                value 0 0 = 0
                count 6 = 0
                count 9 = 0
                subject 0 = 1
                begin 0 1 = 0
                count 6 = 1
                value 1 0 = 7
                value 0 0 = 0
                begin 0 2 = BAD
                count 6 = 1
                """);
    }

    /** "Up to four are OPEN"; promise 20: "FULL: four are". */
    private static void mostOpen() {
        Play.of(CHECK, "four are open", """
                subject 0 = 0
                subject 0 = 1
                book 50 = 0
                rule 0 0 0 = 0
                activity 0 0 0 = 0
                activity NONE NONE NONE = 1
                begin 0 0 = 50
                begin 0 0 = 50
                begin 1 0 = 0
                count 6 = 3
                begin 0 0 = 50               # the 4th one
                count 6 = 4
                does 0 3 0 9 = 0
                begin 0 0 = FULL
                begin 1 0 = FULL
                begin 0 1 = FULL
                begin 1 1 = FULL
                begin 2 0 = BAD              # BAD comes before FULL
                begin 0 2 = BAD
                value 0 0 = 0                # there was no run
                value 1 0 = 0
                count 6 = 4
                middle = 50                  # of the 4th one, for its subject
                value 0 0 = 9
                value 1 0 = 0
                set 0 0 0 = 9
                abandon = 0
                count 6 = 3
                begin 1 0 = 0                # there is room again
                begin 1 0 = FULL
                finish = 0
                begin 0 0 = 50
                value 0 0 = 9
                begin 0 0 = FULL
                abandon = 0
                abandon = 1
                abandon = 0
                abandon = 0
                abandon = NO
                count 6 = 0
                """);
    }

    /** "one within the other (one may be so more than once), each for a subject". */
    private static void oneMoreThanOnce() {
        Play play = new Play(CHECK, "one within the other");
        play.say("book 50 = 0\nrule 0 0 0 = 0\ndoes 0 2 0 1 = 0\nbook 60 = 1\nrule 1 0 0 = 1\ndoes 1 3 0 1 = 0");
        play.say("book 70 = 2\nrule 2 0 0 = 2\ndoes 2 3 0 2 = 0\nactivity 0 1 2 = 0\nactivity 0 2 1 = 1");
        for (int subject = 0; subject < 4; subject++) {
            play.say("subject 0 = " + subject);
        }
        play.say("""
                begin 0 3 = 50
                begin 1 1 = 50
                begin 0 0 = 50
                begin 0 2 = 50
                middle = 60                  # of what was opened last, for its subject
                value 2 0 = 1
                finish = 70
                value 2 0 = 2
                value 0 0 = 0
                middle = 60
                value 0 0 = 1
                abandon = 0
                middle = 70
                value 1 0 = 2
                finish = 60
                value 1 0 = 1
                value 3 0 = 0
                finish = 70
                value 3 0 = 2
                finish = NO
                """);
        play.end();
    }

    /** Promise 20: "With a rule that ERRS it is not OPEN". */
    private static void errsOfActivities() {
        Play.of(CHECK, "begin errs", """
                subject 0 = 0
                book 50 = 0
                rule 0 0 0 = 0
                does 0 4 0 0 = 0
                activity 0 NONE NONE = 0
                activity NONE 0 0 = 1
                begin 0 0 = -10
                erred = 1
                count 6 = 0
                middle = NO
                finish = NO
                abandon = NO
                variable 0 0 1 = 0
                begin 0 0 = 50
                count 6 = 1
                variable 0 0 0 = 0
                begin 0 0 = -10              # the one around stays
                count 6 = 1
                begin 1 0 = 0
                middle = -10                 # middle errs: it is OPEN still
                count 6 = 2
                middle = -10
                abandon = 1
                abandon = 0
                """);
    }

    /** An err leaves the fourth place free. */
    private static void errAtTheLastPlace() {
        Play.of(CHECK, "the fourth errs", """
                subject 0 = 0
                book 50 = 0
                rule 0 0 0 = 0
                activity 0 NONE NONE = 0
                activity NONE NONE NONE = 1
                begin 1 0 = 0
                begin 1 0 = 0
                begin 1 0 = 0
                does 0 4 0 0 = 0
                begin 0 0 = -10
                count 6 = 3
                begin 1 0 = 0
                count 6 = 4
                begin 0 0 = FULL             # there is no run that could err
                erred = 1
                count 6 = 4
                """);
    }

    /** Promises 21 to 23: "NO: none is OPEN". */
    private static void noneIsOpen() {
        for (String call : new String[] {"middle", "finish", "abandon"}) {
            Play.of(CHECK, call + " of none", Play.fill("""
                    {call} = NO
                    subject 0 = 0
                    book 50 = 0
                    rule 0 0 0 = 0
                    activity 0 0 0 = 0
                    {call} = NO
                    begin 0 1 = BAD
                    {call} = NO
                    count 9 = 0
                    begin 0 0 = 50
                    count 6 = 1
                    {call} = {due}
                    finish = {then}
                    {call} = NO
                    count 6 = 0
                    """, "call", call, "due", call.equals("abandon") ? 0 : 50,
                    "then", call.equals("middle") ? "50" : "NO"));
        }
    }

    /** Promise 22: "it is not OPEN any more, whatever comes of it". */
    private static void finishedWhateverComes() {
        Play.of(CHECK, "whatever comes of it", """
                subject 0 = 0
                book 50 = 0
                rule 0 0 0 = 0
                activity NONE NONE 0 = 0
                activity NONE NONE NONE = 1
                begin 1 0 = 0
                begin 0 0 = 0
                finish = 50                  # a default
                count 6 = 1
                begin 0 0 = 0
                does 0 1 1 0 = 0
                finish = 1                   # an outcome
                count 6 = 1
                begin 0 0 = 0
                does 0 4 0 0 = 0
                finish = -10                 # an err
                erred = 1
                count 6 = 1
                finish = 0                   # no book
                count 6 = 0
                finish = NO
                """);
    }

    /** Promise 23: "there is no RUN: which activity". */
    private static void abandonedWithoutARun() {
        Play.of(CHECK, "abandon", """
                subject 0 = 0
                book 50 = 0
                rule 0 0 0 = 0
                does 0 3 0 9 = 0
                activity NONE 0 0 = 0
                activity NONE 0 0 = 1
                begin 1 0 = 0
                begin 0 0 = 0
                begin 1 0 = 0
                abandon = 1
                abandon = 0
                abandon = 1
                abandon = NO
                value 0 0 = 0
                count 9 = 0
                """);
    }

    /** "as run() answers (0 without a book)". */
    private static void partsWithoutABook() {
        Play.of(CHECK, "parts without a book", """
                subject 0 = 0
                book 99 = 0
                activity NONE NONE NONE = 0
                activity 0 NONE NONE = 1
                activity NONE 0 NONE = 2
                activity NONE NONE 0 = 3
                begin 0 0 = 0
                middle = 0
                finish = 0
                begin 1 0 = 99
                middle = 0
                finish = 0
                begin 2 0 = 0
                middle = 99
                finish = 0
                begin 3 0 = 0
                middle = 0
                finish = 99
                count 6 = 0
                """);
    }
}
