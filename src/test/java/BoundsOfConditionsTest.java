/** The bounds of CONDITIONS and of what rules do, in chapter 2 of the terms, as runs show them. */
public final class BoundsOfConditionsTest {
    private static final Check CHECK = new Check();
    private static final int MIN = Integer.MIN_VALUE;
    private static final int MAX = Integer.MAX_VALUE;

    public static void main(String[] args) {
        kindsUnder();
        numbersThatAreOrAreAbove();
        slotsOfTheirOwn();
        scenesThatHappen();
        appliedBefore();
        appliedInThisRun();
        noneOrAll();
        sumsThatWrap();
        divisionTowardZero();
        divisionByZero();
        valuesAndVariables();
        CHECK.end();
    }

    /** "0 the subject's kind is UNDER kind x"; "10 and one of these: just if that is not so". */
    private static void kindsUnder() {
        Play.of(CHECK, "a kind under another", """
                kind 0 = 1
                kind 1 = 2
                kind 2 = 3
                kind 1 = 4
                subject 0 = 0
                subject 1 = 1
                subject 2 = 2
                subject 3 = 3
                subject 4 = 4
                book 50 = 0
                rule 0 0 0 = 0
                condition 0 0 2 0 = 1
                does 0 1 1 0 = 0
                rule 0 1 0 = 1
                condition 1 10 2 0 = 1
                does 1 1 2 0 = 0
                run 0 0 = 2
                run 0 1 = 2          # the parent
                run 0 2 = 1          # the kind itself
                run 0 3 = 1          # a kind under it
                run 0 4 = 2          # another one of the same parent
                """);
    }

    private static String lineOf(int code, int y, int number) {
        boolean is = number == y;
        boolean above = number > y;
        boolean so = code % 2 == 1 ? is : above;
        return Play.fill("""
                subject 0 = 0
                set 0 1 {number} = 0
                book 50 = 0
                variable 0 1 {number} = 0
                rule 0 0 0 = 0
                does 0 1 1 0 = 0
                condition 0 {code} 1 {y} = 1
                run 0 0 = {due}
                trace 0 1 = {applied}
                rule 0 1 0 = 1
                does 1 1 2 0 = 0
                condition 1 1{code} 1 {y} = 1
                run 0 0 = {contrary}
                """, "number", number, "y", y, "code", code, "due", so ? 1 : 50, "applied", so ? 1 : 0,
                "contrary", so ? 1 : 2);
    }

    /** "1, 2 its value x is y, is above y. 3, 4 variable x is y, is above y." */
    private static void numbersThatAreOrAreAbove() {
        for (int code = 1; code <= 4; code++) {
            for (int y : new int[] {MIN + 1, -1, 0, 7, MAX - 1}) {
                for (int number : new int[] {y - 1, y, y + 1}) {
                    Play.of(CHECK, "code " + code + ", " + number + " and " + y, lineOf(code, y, number));
                }
            }
            for (int y : new int[] {MIN, MAX}) {
                for (int number : new int[] {MIN, MIN + 1, 0, MAX - 1, MAX}) {
                    Play.of(CHECK, "code " + code + ", " + number + " and " + y, lineOf(code, y, number));
                }
            }
        }
    }

    /** Value x and variable x are not the same, nor are x and another x. */
    private static void slotsOfTheirOwn() {
        for (int code = 1; code <= 4; code++) {
            for (int x = 0; x < 4; x++) {
                Play play = new Play(CHECK, "slot " + x + ", code " + code);
                play.say("subject 0 = 0\nbook 50 = 0\nrule 0 0 0 = 0\ndoes 0 1 1 0 = 0");
                play.say("condition 0 " + code + " " + x + " " + (code % 2 == 1 ? 6 : 5) + " = 1");
                for (int other = 0; other < 4; other++) {
                    boolean valueCounts = code <= 2 && other == x;
                    boolean variableCounts = code > 2 && other == x;
                    play.say("set 0 " + other + " 6 = 0\nrun 0 0 = " + (valueCounts ? 1 : 50));
                    play.say("set 0 " + other + " 0 = 6\nvariable 0 " + other + " 6 = 0");
                    play.say("run 0 0 = " + (variableCounts ? 1 : 50) + "\nvariable 0 " + other + " 0 = 0");
                }
                play.end();
            }
        }
    }

    /** "5 scene x HAPPENS": from its beginning on, till its end. */
    private static void scenesThatHappen() {
        Play.of(CHECK, "a scene that happens", """
                subject 0 = 0
                scene 0 = 0
                scene 1 = 1
                anchor 1 0 1 2 = 0
                anchor 1 1 1 4 = 0
                book 50 = 0
                rule 0 0 0 = 0
                condition 0 5 1 0 = 1
                does 0 1 1 0 = 0
                rule 0 1 0 = 1
                condition 1 15 1 0 = 1
                does 1 1 2 0 = 0
                run 0 0 = 2
                turn = 0
                run 0 0 = 2
                turn = 1             # it begins
                run 0 0 = 1
                turn = 0
                run 0 0 = 1
                turn = 2             # it ends, and begins again
                run 0 0 = 1
                anchor 1 0 0 0 = 0
                turn = 1             # it ends
                run 0 0 = 2
                """);
    }

    /** "6 rule x APPLIED in this RUN of its book before". */
    private static void appliedBefore() {
        Play.of(CHECK, "a rule that applied before", """
                subject 0 = 0
                book 50 = 0
                rule 0 0 0 = 0
                condition 0 1 0 1 = 1    # it applies if value 0 is 1
                rule 0 1 0 = 1
                condition 1 6 0 0 = 1
                does 1 1 11 0 = 0
                rule 0 2 0 = 2
                condition 2 16 0 0 = 1
                does 2 1 22 0 = 0
                run 0 0 = 22             # it was looked at, but did not apply
                whole trace = 0/0/1 1/0/1 2/1/1
                set 0 0 1 = 0
                run 0 0 = 11
                whole trace = 0/1/1 1/1/1
                set 0 0 0 = 1
                run 0 0 = 22             # it applied in the run before, not in this one
                set 0 0 1 = 0
                order 0 1 0 = 0
                run 0 0 = 22             # it comes later
                order 0 5 0 = 0
                run 0 0 = 22             # it is not in the row
                order 0 0 0 = 0
                condition 1 6 1 0 = 2
                run 0 0 = 50             # no rule applied before itself
                condition 2 16 2 0 = 2
                set 0 0 0 = 1
                run 0 0 = 22
                """);
        Play.of(CHECK, "the first and the last of 60 rules", lastRuleApplied());
    }

    private static String lastRuleApplied() {
        StringBuilder lines = new StringBuilder("subject 0 = 0\nbook 50 = 0\n");
        for (int rule = 0; rule < 60; rule++) {
            lines.append("rule 0 1 0 = ").append(rule).append('\n');
        }
        return lines.append("""
                order 59 0 0 = 0
                condition 59 1 0 1 = 1
                condition 58 6 59 0 = 1
                does 58 1 9 0 = 0
                condition 31 6 59 0 = 1
                does 31 3 1 31 = 0
                condition 27 6 31 0 = 1
                does 27 3 2 27 = 0
                run 0 0 = 50
                set 0 0 1 = 0
                run 0 0 = 9
                value 0 1 = 31
                value 0 2 = 0
                order 27 1 0 = 0
                does 58 0 0 0 = 0
                run 0 0 = 50
                value 0 2 = 27
                """).toString();
    }

    /** "in this RUN": neither in one that it is within, nor in one within it. */
    private static void appliedInThisRun() {
        Play.of(CHECK, "applied in a run around", """
                subject 0 = 0
                book 50 = 0
                rule 0 0 0 = 0
                condition 0 1 0 0 = 1
                does 0 3 0 1 = 0         # just once: value 0 is 1 from then on
                rule 0 1 0 = 1
                condition 1 1 1 0 = 1
                condition 1 6 0 0 = 2
                does 1 5 0 0 = 0         # the book has a run within
                rule 0 2 0 = 2
                condition 2 6 0 0 = 1
                does 2 3 2 8 = 0
                rule 0 2 0 = 3
                condition 3 16 0 0 = 1
                does 3 3 3 9 = 0
                run 0 0 = 50
                whole trace = 0/1/1 1/1/1 0/0/2 1/0/2 2/0/2 3/1/2 2/1/1 3/0/1
                """);
        Play.of(CHECK, "applied in a run within", """
                subject 0 = 0
                book 50 = 0
                rule 0 0 9 = 0
                condition 0 1 0 1 = 1
                rule 0 0 8 = 1
                condition 1 1 0 0 = 1
                does 1 3 0 1 = 0         # so rule 0 applies in the run within alone
                rule 0 0 7 = 2
                condition 2 6 1 0 = 1
                does 2 5 0 0 = 0
                rule 0 1 0 = 3
                condition 3 6 0 0 = 1
                rule 0 1 0 = 4
                condition 4 16 0 0 = 1
                run 0 0 = 50
                whole trace = 0/0/1 1/1/1 2/1/1 0/1/2 1/0/2 2/0/2 3/1/2 4/0/2 3/0/1 4/1/1
                """);
    }

    /** "if all its CONDITIONS are so": none is so as well, and three of four are not all. */
    private static void noneOrAll() {
        for (int not = -1; not < 4; not++) {
            Play play = new Play(CHECK, "all of its conditions, but not " + not);
            play.say("subject 0 = 0\nbook 50 = 0\nrule 0 0 0 = 0\ndoes 0 1 1 0 = 0\nrun 0 0 = 1");
            for (int x = 0; x < 4; x++) {
                play.say("condition 0 1 " + x + " 1 = " + (x + 1) + "\nset 0 " + x + " 1 = 0");
            }
            play.say(not < 0 ? "run 0 0 = 1\ntrace 0 1 = 1"
                    : "set 0 " + not + " 2 = 1\nrun 0 0 = 50\ntrace 0 1 = 0");
            play.end();
        }
    }

    private static void sum(String first, String more, String due) {
        Play.of(CHECK, first + " more by " + more, Play.fill("""
                subject 0 = 0
                book 50 = 0
                variable 0 2 {first} = 0
                rule 0 0 0 = 0
                does 0 2 2 {more} = 0
                rule 0 1 0 = 1
                condition 1 3 2 {due} = 1
                does 1 1 1 0 = 0
                run 0 0 = 1
                run 0 0 = 1
                """, "first", first, "more", more, "due", due));
    }

    /** "sums wrap as ints do". */
    private static void sumsThatWrap() {
        sum("2147483646", "1", "MAX");
        sum("MAX", "1", "MIN");
        sum("MAX", "2", "-2147483647");
        sum("MAX", "MAX", "-2");
        sum("-2147483647", "-1", "MIN");
        sum("MIN", "-1", "MAX");
        sum("MIN", "MIN", "0");
        sum("MIN", "MAX", "-1");
        sum("0", "MIN", "MIN");
        sum("5", "-6", "-1");
        sum("5", "0", "5");
        Play.of(CHECK, "a sum that wraps is below", """
                subject 0 = 0
                book 50 = 0
                variable 0 0 MAX = 0
                rule 0 0 0 = 0
                does 0 2 0 1 = 0
                rule 0 1 0 = 1
                condition 1 4 0 0 = 1
                does 1 1 1 0 = 0
                run 0 0 = 50
                does 0 2 0 0 = 0
                run 0 0 = 1
                """);
    }

    private static void quotient(String value, String by, String due) {
        Play.of(CHECK, value + " by " + by, Play.fill("""
                subject 0 = 0
                set 0 1 {value} = 0
                book 50 = 0
                variable 0 3 {by} = 0
                rule 0 0 0 = 0
                does 0 4 1 3 = 0
                run 0 0 = 50
                erred = 0
                value 0 1 = {due}
                """, "value", value, "by", by, "due", due));
    }

    /** "/ cuts off toward 0". */
    private static void divisionTowardZero() {
        quotient("7", "2", "3");
        quotient("-7", "2", "-3");
        quotient("7", "-2", "-3");
        quotient("-7", "-2", "3");
        quotient("6", "3", "2");
        quotient("1", "2", "0");
        quotient("-1", "2", "0");
        quotient("-1", "MIN", "0");
        quotient("0", "1", "0");
        quotient("0", "-1", "0");
        quotient("9", "1", "9");
        quotient("9", "-1", "-9");
        quotient("MAX", "-1", "-2147483647");
        quotient("-2147483647", "-1", "MAX");
        quotient("MIN", "-1", "MIN");
        quotient("MIN", "1", "MIN");
        quotient("MIN", "MIN", "1");
        quotient("MAX", "MIN", "0");
        quotient("MIN", "MAX", "-1");
    }

    /** "A rule ERRS: 1 if it divides by 0". */
    private static void divisionByZero() {
        Play.of(CHECK, "by 0", """
                subject 0 = 0
                set 0 1 8 = 0
                book 50 = 0
                rule 0 0 0 = 0
                does 0 4 1 3 = 0
                run 0 0 = -10
                erred = 1
                value 0 1 = 8            # it stays as it was
                variable 0 2 5 = 0       # another variable
                run 0 0 = -10
                set 0 1 0 = 8
                run 0 0 = -10            # 0 by 0
                erred = 1
                set 0 1 8 = 0
                variable 0 3 1 = 0
                run 0 0 = 50
                erred = 0
                value 0 1 = 8
                variable 0 3 -1 = 0
                run 0 0 = 50
                erred = 0
                value 0 1 = -8
                condition 0 3 3 1 = 1    # it does not apply, so it does not divide
                variable 0 3 0 = 0
                run 0 0 = 50
                erred = 0
                value 0 1 = -8
                """);
        Play.of(CHECK, "by what is 0 then", """
                subject 0 = 0
                set 0 0 8 = 0
                book 50 = 0
                variable 0 0 -1 = 0
                rule 0 0 9 = 0
                does 0 2 0 1 = 0
                rule 0 0 8 = 1
                does 1 4 0 0 = 0
                run 0 0 = -11
                erred = 1
                does 0 2 0 2 = 0
                run 0 0 = 50
                value 0 0 = 8
                """);
    }

    /** "3 the subject's value x becomes y", "8 variable x becomes the subject's value y". */
    private static void valuesAndVariables() {
        for (int x = 0; x < 4; x++) {
            Play.of(CHECK, "value and variable " + x, Play.fill("""
                    subject 0 = 0
                    subject 0 = 1
                    book 50 = 0
                    rule 0 0 0 = 0
                    does 0 3 {x} MIN = 0
                    run 0 1 = 50
                    value 1 {x} = MIN
                    value 0 {x} = 0          # the subject's own
                    does 0 3 {x} MAX = 0
                    run 0 1 = 50
                    value 1 {x} = MAX
                    does 0 8 {y} {x} = 0
                    rule 0 1 0 = 1
                    condition 1 3 {y} MAX = 1
                    does 1 1 1 0 = 0
                    run 0 1 = 1
                    run 0 0 = 50
                    set 1 {x} MIN = MAX
                    run 0 1 = 50
                    """, "x", x, "y", 3 - x));
        }
    }
}
