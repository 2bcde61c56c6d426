/** The bounds that chapter 3 of the terms and promises 14 to 16 name. */
public final class BoundsOfRunsTest {
    private static final Check CHECK = new Check();

    public static void main(String[] args) {
        booksAndSubjectsOfARun();
        endsOfARun();
        outcomesOrNone();
        variablesOfItsOwn();
        valuesStay();
        sixRunsDeep();
        deepNotMany();
        aBookThatFollowsItself();
        threeHundredLookedAt();
        theLookIsNotTaken();
        eachCallHasItsOwn();
        errsEndAllRuns();
        answersOfErrs();
        rowsOfTheTrace();
        depthsOfTheTrace();
        whichTraceIsKept();
        noRunLeavesTheTrace();
        CHECK.end();
    }

    /** Promise 14: "BAD: no such book, subject". */
    private static void booksAndSubjectsOfARun() {
        Play.of(CHECK, "what has a run", """
                run 0 0 = BAD
                book 5 = 0
                run 0 0 = BAD
                subject 0 = 0
                run 0 0 = 5              # without a rule
                rule 0 0 0 = 0
                does 0 3 0 7 = 0
                run -1 0 = BAD
                run 1 0 = BAD
                run NONE 0 = BAD
                run MIN 0 = BAD
                run MAX 0 = BAD
                run 0 -1 = BAD
                run 0 1 = BAD
                run 0 MIN = BAD
                run 0 MAX = BAD
                value 0 0 = 0
                count 9 = 0
                book 6 = 1
                subject 0 = 1
                run 1 0 = 6
                run 0 1 = 5
                value 1 0 = 7
                value 0 0 = 0
                run 2 0 = BAD
                run 0 2 = BAD
                """);
    }

    /** "DECIDES: the RUN ends", "STOPS: it ends without one", "Behind the last rule it ends without one". */
    private static void endsOfARun() {
        Play.of(CHECK, "ends of a run", """
                subject 0 = 0
                book 50 = 0
                rule 0 0 0 = 0
                rule 0 1 0 = 1
                rule 0 2 0 = 2
                run 0 0 = 50             # behind the last rule
                count 9 = 3
                does 0 1 1 0 = 0         # at the first
                run 0 0 = 1
                count 9 = 1
                does 0 7 0 0 = 0
                run 0 0 = 50
                count 9 = 1
                does 0 0 0 0 = 0
                does 2 1 99 0 = 0        # at the last
                run 0 0 = 99
                count 9 = 3
                does 2 7 0 0 = 0
                run 0 0 = 50
                count 9 = 3
                does 1 7 0 0 = 0         # nothing behind it is looked at
                does 2 1 98 0 = 0
                run 0 0 = 50
                count 9 = 2
                condition 1 10 0 0 = 1   # it does not apply
                run 0 0 = 98
                count 9 = 3
                """);
    }

    /** "the DEFAULT without one": it is no OUTCOME, for FOLLOWS and ABIDES as well. */
    private static void outcomesOrNone() {
        Play.of(CHECK, "an outcome or none", """
                subject 0 = 0
                book 50 = 0
                book 60 = 1
                book 0 = 2
                rule 0 0 0 = 0
                rule 0 1 0 = 1
                does 1 1 9 0 = 0
                rule 1 0 0 = 2
                does 0 6 2 0 = 0         # abides by a book without a rule
                run 0 0 = 9
                does 0 6 1 0 = 0         # abides by one without an outcome: its default is none
                run 0 0 = 9
                does 2 7 0 0 = 0         # abides by one that stops
                run 0 0 = 9
                does 2 1 1 0 = 0         # abides by the least outcome
                run 0 0 = 1
                count 9 = 2
                does 2 1 60 0 = 0        # an outcome like the default
                run 0 0 = 60
                does 0 5 1 0 = 0         # follows: then the next rule
                run 0 0 = 9
                count 9 = 3
                does 1 0 0 0 = 0
                run 0 0 = 50             # an outcome that was followed is none of its own
                does 0 6 1 0 = 0
                does 2 6 2 0 = 0
                rule 2 0 0 = 3
                run 0 0 = 50             # abides by one that abides by one without
                does 3 1 99 0 = 0
                run 0 0 = 99
                run 1 0 = 99
                """);
    }

    /** "has VARIABLES of its own, the first numbers of the book". */
    private static void variablesOfItsOwn() {
        Play.of(CHECK, "variables of its own", """
                subject 0 = 0
                book 50 = 0
                variable 0 0 5 = 0
                rule 0 0 9 = 0
                condition 0 4 0 4 = 1
                does 0 2 0 1 = 0         # 6
                rule 0 0 8 = 1
                condition 1 1 0 0 = 1
                does 1 3 0 1 = 0
                rule 0 0 7 = 2
                condition 2 6 1 0 = 1
                does 2 5 0 0 = 0         # the book once more, within
                rule 0 1 0 = 3
                condition 3 3 0 6 = 1
                rule 0 1 0 = 4
                condition 4 3 0 7 = 1
                run 0 0 = 50
                whole trace = 0/1/1 1/1/1 2/1/1 0/1/2 1/0/2 2/0/2 3/1/2 4/0/2 3/1/1 4/0/1
                run 0 0 = 50
                whole trace = 0/1/1 1/0/1 2/0/1 3/1/1 4/0/1
                """);
    }

    /** "values that were changed stay so". */
    private static void valuesStay() {
        Play.of(CHECK, "values stay", """
                subject 0 = 0
                book 50 = 0
                book 50 = 1
                rule 0 0 9 = 0
                does 0 6 1 0 = 0
                rule 0 0 8 = 1
                condition 1 1 0 4 = 1
                does 1 1 8 0 = 0
                rule 1 0 9 = 2
                does 2 3 0 4 = 0
                rule 1 0 8 = 3
                does 3 7 0 0 = 0
                run 0 0 = 8              # behind the run within
                value 0 0 = 4
                run 0 0 = 8
                does 2 3 0 5 = 0
                does 3 4 0 0 = 0
                run 0 0 = -13            # also when all runs end at once
                value 0 0 = 5
                """);
    }

    /** Books 0 .. n - 1, each with one rule that goes to the next book, but for the last one. */
    private static Play ladder(String title, int books, int code) {
        Play play = new Play(CHECK, title);
        play.say("subject 0 = 0");
        for (int book = 0; book < books; book++) {
            play.say("book " + (book + 10) + " = " + book + "\nrule " + book + " 0 0 = " + book);
        }
        for (int book = 0; book + 1 < books; book++) {
            play.say("does " + book + " " + code + " " + (book + 1) + " 0 = 0");
        }
        return play;
    }

    /** "2 if it would begin a RUN that is within six others". */
    private static void sixRunsDeep() {
        Play abides = ladder("six runs that abide", 7, 6);
        abides.say("""
                does 6 1 77 0 = 0
                run 1 0 = 77             # the sixth run is within five others
                erred = 0
                whole trace = 1/1/1 2/1/2 3/1/3 4/1/4 5/1/5 6/1/6
                run 0 0 = -15            # the seventh is within six
                erred = 2
                whole trace = 0/1/1 1/1/2 2/1/3 3/1/4 4/1/5 5/1/6
                order 6 5 0 = 0
                run 0 0 = -15            # also if the book's row is empty
                erred = 2
                condition 5 10 0 0 = 1   # it does not apply: it would begin nothing
                run 0 0 = 10
                erred = 0
                whole trace = 0/1/1 1/1/2 2/1/3 3/1/4 4/1/5 5/0/6
                """);
        abides.end();
        Play follows = ladder("six runs that follow", 7, 5);
        follows.say("""
                does 6 1 77 0 = 0
                run 1 0 = 11
                erred = 0
                count 9 = 6
                run 0 0 = -15
                erred = 2
                count 9 = 6
                """);
        follows.end();
    }

    /** Within six others, not behind six others. */
    private static void deepNotMany() {
        Play play = ladder("seven runs side by side", 6, 5);
        for (int rule = 6; rule < 12; rule++) {
            play.say("rule 4 1 0 = " + rule + "\ndoes " + rule + " 5 5 0 = 0");
        }
        play.say("""
                run 0 0 = 10             # book 5 has seven runs, each within five others
                erred = 0
                count 9 = 18
                trace 17 0 = 5
                trace 17 2 = 6
                """);
        play.end();
    }

    private static void aBookThatFollowsItself() {
        for (int code = 5; code <= 6; code++) {
            Play.of(CHECK, "a book that goes to itself, code " + code, Play.fill("""
                    subject 0 = 0
                    book 50 = 0
                    rule 0 0 0 = 0
                    does 0 {code} 0 0 = 0
                    run 0 0 = -10
                    erred = 2
                    whole trace = 0/1/1 0/1/2 0/1/3 0/1/4 0/1/5 0/1/6
                    run 0 0 = -10            # each call begins anew
                    count 9 = 6
                    """, "code", code));
        }
    }

    /** Book 0 has 49 rules; book 1 has so many rules that follow it, and so many more. */
    private static Play crowd(String title, int followers, int more) {
        Play play = new Play(CHECK, title);
        play.say("subject 0 = 0\nbook 50 = 0\nbook 51 = 1");
        for (int rule = 0; rule < 49; rule++) {
            play.say("rule 0 1 0 = " + rule);
        }
        for (int rule = 49; rule < 49 + followers; rule++) {
            play.say("rule 1 1 0 = " + rule + "\ndoes " + rule + " 5 0 0 = 0");
        }
        for (int rule = 49 + followers; rule < 49 + followers + more; rule++) {
            play.say("rule 1 2 0 = " + rule);
        }
        return play;
    }

    /** "3 if it would be the 301st that is LOOKED AT in one call (it is not then)". */
    private static void threeHundredLookedAt() {
        Play inside = crowd("300 that are looked at", 6, 0);
        inside.say("""
                run 1 0 = 51
                erred = 0
                count 9 = 300
                trace 0 0 = 49
                trace 0 2 = 1
                trace 299 0 = 48
                trace 299 1 = 1
                trace 299 2 = 2
                trace 300 0 = NONE
                rule 1 2 0 = 55          # the 301st
                condition 55 10 0 0 = 1  # whether it would apply or not
                run 1 0 = -65
                erred = 3
                count 9 = 300
                trace 299 0 = 48
                trace 300 0 = NONE
                order 55 5 0 = 0
                run 1 0 = 51
                erred = 0
                count 9 = 300
                does 48 1 9 0 = 0        # the last of each run decides, and is the 300th
                run 1 0 = 51
                order 55 1 0 = 0
                run 1 0 = -65
                does 0 7 0 0 = 0         # each run within stops at its first rule
                run 1 0 = 51
                erred = 0
                count 9 = 13
                """);
        inside.end();
        Play within = crowd("the 301st is in a run within", 6, 1);
        within.say("""
                rule 1 0 0 = 56          # first of all, so that rule 48 would be the 301st
                run 1 0 = -58
                erred = 3
                count 9 = 300
                trace 299 0 = 47
                trace 299 2 = 2
                """);
        within.end();
    }

    /** "it is not then": neither are its conditions asked, nor is anything done. */
    private static void theLookIsNotTaken() {
        Play play = crowd("the 301st does nothing", 6, 1);
        play.say("""
                does 55 3 0 9 = 0
                run 1 0 = -65
                value 0 0 = 0
                does 55 4 0 0 = 0
                run 1 0 = -65
                erred = 3                # and does not divide
                does 55 5 0 0 = 0
                run 1 0 = -65
                erred = 3                # and begins no run
                does 54 3 0 7 = 0        # 250 and rules 54, 55: then there are 48 more to be looked at
                run 1 0 = -58
                erred = 3
                value 0 0 = 7
                order 48 5 0 = 0
                run 1 0 = 51
                erred = 0
                count 9 = 295
                """);
        play.end();
    }

    /** "in one call": the next one has 300 again. */
    private static void eachCallHasItsOwn() {
        Play play = crowd("300 in each call", 6, 0);
        play.say("""
                activity 1 1 1 = 0
                everyTurn 1 = 0
                action NONE 1 NONE NONE NONE NONE = 0
                action 0 1 NONE NONE NONE NONE = 1
                begin 0 0 = 51
                count 9 = 300
                middle = 51
                count 9 = 300
                finish = 51
                count 9 = 300
                turn = 0
                count 9 = 300
                act 0 0 = 0
                count 9 = 300
                erred = 0
                act 1 0 = -10            # 49, and 251 in the second stage: rule 54 is the 300th
                trace 299 0 = 54
                count 9 = 300
                erred = 3
                run 1 0 = 51
                erred = 0
                """);
        play.end();
    }

    /** "All RUNS end at once". */
    private static void errsEndAllRuns() {
        for (int code = 5; code <= 6; code++) {
            Play play = ladder("all runs end at once, code " + code, 6, code);
            for (int book = 0; book < 6; book++) {
                play.say("rule " + book + " 2 0 = " + (6 + book) + "\ndoes " + (6 + book) + " 3 0 9 = 0");
            }
            play.say("""
                    does 5 4 0 0 = 0
                    run 0 0 = -15
                    erred = 1
                    count 9 = 6
                    value 0 0 = 0            # no rule behind was looked at, in any of the runs
                    variable 5 0 1 = 0
                    run 0 0 = 10
                    erred = 0
                    count 9 = 12
                    value 0 0 = 9
                    """);
            play.end();
        }
    }

    /** "the call answers -10 less the rule": the first and the last rule that there may be. */
    private static void answersOfErrs() {
        Play play = new Play(CHECK, "-10 less the rule");
        play.say("subject 0 = 0\nbook 99 = 0\nbook 99 = 1");
        for (int rule = 0; rule < 60; rule++) {
            play.say("rule " + (rule < 59 ? 0 : 1) + " 0 0 = " + rule);
        }
        play.say("""
                does 0 4 0 0 = 0
                does 59 4 0 0 = 0
                activity 1 1 1 = 0
                activity NONE 1 1 = 1
                action NONE NONE NONE NONE NONE 1 = 0
                everyTurn 1 = 0
                run 0 0 = -10
                run 1 0 = -69
                act 0 0 = -69
                begin 0 0 = -69
                count 6 = 0
                begin 1 0 = 0
                middle = -69
                finish = -69
                turn = -69
                everyTurn 0 = 0
                turn = -10
                erred = 1
                """);
        play.end();
    }

    /** Promise 15: "What 0 .. 2 of row i of THE TRACE; NONE: none such, or what". */
    private static void rowsOfTheTrace() {
        Play.of(CHECK, "rows of the trace", """
                trace 0 0 = NONE
                trace -1 0 = NONE
                count 9 = 0
                subject 0 = 0
                book 50 = 0
                rule 0 0 0 = 0
                rule 0 0 5 = 1
                condition 0 10 0 0 = 1
                trace 0 0 = NONE
                run 0 0 = 50
                count 9 = 2
                trace 0 0 = 1
                trace 0 1 = 1
                trace 0 2 = 1
                trace 1 0 = 0
                trace 1 1 = 0
                trace 1 2 = 1
                trace 2 0 = NONE
                trace -1 0 = NONE
                trace -1 2 = NONE
                trace MIN 0 = NONE
                trace MAX 0 = NONE
                trace 0 -1 = NONE
                trace 0 3 = NONE
                trace 1 3 = NONE
                trace 0 MIN = NONE
                trace 0 MAX = NONE
                trace 2 3 = NONE
                does 1 7 0 0 = 0
                run 0 0 = 50
                count 9 = 1
                trace 0 0 = 1
                trace 1 0 = NONE         # a shorter one has no rows of the one before
                """);
    }

    /** "within how many RUNS it stands (its own one is the first)". */
    private static void depthsOfTheTrace() {
        Play play = ladder("depths of the trace", 3, 5);
        play.say("""
                rule 0 1 0 = 3
                rule 1 1 0 = 4
                does 3 6 2 0 = 0
                action 2 0 NONE NONE NONE NONE = 0
                run 2 0 = 12
                whole trace = 2/1/1
                run 0 0 = 10
                whole trace = 0/1/1 1/1/2 2/1/3 4/1/2 3/1/1 2/1/2
                act 0 0 = 0
                whole trace = 2/1/1 0/1/1 1/1/2 2/1/3 4/1/2 3/1/1 2/1/2
                """);
        play.end();
    }

    /** "THE TRACE of the latest call in which there was a RUN"; promise 16: "0, or as its rule ERRS". */
    private static void whichTraceIsKept() {
        Play.of(CHECK, "which trace is kept", """
                erred = 0
                subject 0 = 0
                book 50 = 0
                book 51 = 1
                book 52 = 2
                rule 0 0 0 = 0
                does 0 4 0 0 = 0
                rule 1 0 0 = 1
                activity 0 1 2 = 0
                activity 1 0 2 = 1
                action 1 NONE NONE 1 NONE NONE = 0
                run 0 0 = -10
                erred = 1
                whole trace = 0/1/1
                run 1 0 = 51
                erred = 0
                whole trace = 1/1/1
                run 0 0 = -10
                run 2 0 = 52             # a run without a rule is a run
                erred = 0
                count 9 = 0
                trace 0 0 = NONE
                begin 0 0 = -10
                erred = 1
                whole trace = 0/1/1
                begin 1 0 = 51
                erred = 0
                whole trace = 1/1/1
                middle = -10
                erred = 1
                whole trace = 0/1/1
                finish = 52
                erred = 0
                count 9 = 0
                act 0 0 = 0
                erred = 0
                whole trace = 1/1/1 1/1/1
                everyTurn 0 = 0
                turn = -10
                erred = 1
                whole trace = 0/1/1
                everyTurn 2 = 0
                turn = 0
                erred = 0
                count 9 = 0
                """);
    }

    /** A call without a run leaves it, whether it is refused or has no book. */
    private static void noRunLeavesTheTrace() {
        Play play = new Play(CHECK, "calls without a run");
        play.say("""
                book 50 = 0
                rule 0 0 0 = 0
                everyTurn 0 = 0
                turn = 0                 # there is no subject 0
                count 9 = 0
                subject 0 = 0
                rule 0 1 0 = 1
                does 1 4 0 0 = 0
                activity NONE NONE NONE = 0
                activity 0 0 0 = 1
                action NONE NONE NONE NONE NONE NONE = 0
                action 0 0 0 0 0 0 = 1
                scene 1 = 0
                anchor 0 0 1 0 = 0
                run 0 0 = -11
                everyTurn NONE = 0
                """);
        String[] calls = {
            "run 1 0 = BAD", "run 0 1 = BAD", "act 0 0 = 0", "act 2 0 = BAD", "act 1 1 = BAD", "begin 0 0 = 0",
            "middle = 0", "finish = 0", "begin 0 0 = 0", "abandon = 0", "middle = NO", "finish = NO", "abandon = NO",
            "begin 0 0 = 0", "begin 0 0 = 0", "begin 0 0 = 0", "begin 0 0 = 0", "begin 1 0 = FULL", "begin 2 0 = BAD",
            "begin 1 1 = BAD", "turn = 1", "everyTurn 0 = 0", "condition 0 10 0 0 = 1", "does 1 7 0 0 = 0",
            "order 0 5 0 = 0", "rule 0 0 0 = 2", "set 0 0 3 = 0", "variable 0 0 3 = 0"};
        for (String call : calls) {
            play.say(call + "\nerred = 1\ncount 9 = 2\nwhole trace = 0/1/1 1/1/1");
        }
        play.end();
    }
}
