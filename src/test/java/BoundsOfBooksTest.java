/** The bounds that chapter 2 of the terms and promises 7 to 11 name. */
public final class BoundsOfBooksTest {
    private static final Check CHECK = new Check();

    public static void main(String[] args) {
        defaults();
        mostBooks();
        variablesAtFirst();
        variableNumbers();
        sectionsAndSpecials();
        mostRules();
        fourConditions();
        conditionCodes();
        conditionsOfAKind();
        conditionsOfSlots();
        conditionsOfAScene();
        conditionsOfARule();
        doesNothingAtFirst();
        deedCodes();
        deedsThatDecide();
        deedsOfSlots();
        deedsOfBooks();
        refusedDeedKeepsTheOlder();
        CHECK.end();
    }

    /** "a DEFAULT (0 .. 99)"; promise 7: "BAD: it is not 0 .. 99". */
    private static void defaults() {
        Play.of(CHECK, "a default", """
                subject 0 = 0
                book -1 = BAD
                book 100 = BAD
                book MIN = BAD
                book MAX = BAD
                book -4 = BAD
                count 2 = 0
                book 0 = 0
                book 1 = 1
                book 98 = 2
                book 99 = 3
                book 100 = BAD
                run 0 0 = 0
                run 1 0 = 1
                run 2 0 = 98
                run 3 0 = 99
                """);
    }

    /** "BOOKS (12)"; promise 7: "FULL". */
    private static void mostBooks() {
        Play play = new Play(CHECK, "12 books");
        play.say("subject 0 = 0");
        for (int book = 0; book < 11; book++) {
            play.say("book " + (20 + book) + " = " + book);
        }
        play.say("""
                count 2 = 11
                variable 11 0 1 = BAD
                rule 11 0 0 = BAD
                row 11 0 = BAD
                run 11 0 = BAD
                everyTurn 11 = BAD
                book 31 = 11         # the 12th one
                book 0 = FULL
                book 99 = FULL
                book 100 = BAD       # BAD comes before FULL
                book -1 = BAD
                count 2 = 12
                variable 11 0 1 = 0
                row 11 0 = NONE
                run 11 0 = 31
                run 0 0 = 20
                everyTurn 11 = 0
                variable 12 0 1 = BAD
                rule 12 0 0 = BAD
                row 12 0 = BAD
                run 12 0 = BAD
                everyTurn 12 = BAD
                rule 11 0 0 = 0
                """);
        play.end();
    }

    /** "VARIABLES 0 .. 3 with a first number each (0 at first)". */
    private static void variablesAtFirst() {
        for (int x = 0; x < 4; x++) {
            Play.of(CHECK, "first number " + x, Play.fill("""
                    subject 0 = 0
                    book 50 = 0
                    book 51 = 1
                    rule 0 0 0 = 0
                    does 0 1 1 0 = 0
                    condition 0 3 {x} 0 = 1
                    run 0 0 = 1          # it is 0 at first
                    variable 0 {x} 1 = 0
                    run 0 0 = 50
                    variable 0 {x} -1 = 0
                    run 0 0 = 50
                    variable 0 {x} 0 = 0
                    run 0 0 = 1
                    variable 1 {x} 7 = 0   # of another book
                    run 0 0 = 1
                    variable 0 {x} MIN = 0
                    run 0 0 = 50
                    rule 1 0 0 = 1
                    does 1 2 {x} 1 = 0
                    rule 1 1 0 = 2
                    does 2 1 2 0 = 0
                    condition 2 3 {x} 8 = 1
                    run 1 0 = 2
                    run 1 0 = 2          # no run changes a first number
                    """, "x", x));
        }
    }

    /** Promise 8: "BAD: no such book, variable". */
    private static void variableNumbers() {
        Play.of(CHECK, "variables 0 .. 3", """
                subject 0 = 0
                variable 0 0 1 = BAD
                book 50 = 0
                variable 0 -1 9 = BAD
                variable 0 4 9 = BAD
                variable 0 MIN 9 = BAD
                variable 0 MAX 9 = BAD
                variable -1 0 9 = BAD
                variable 1 0 9 = BAD
                variable NONE 0 9 = BAD
                variable MIN 0 9 = BAD
                variable MAX 0 9 = BAD
                variable 0 0 5 = 0
                variable 0 3 MAX = 0
                variable 0 4 6 = BAD
                variable 0 -1 6 = BAD
                variable 1 3 6 = BAD
                rule 0 0 0 = 0
                condition 0 3 0 5 = 1
                condition 0 3 1 0 = 2
                condition 0 3 2 0 = 3
                condition 0 3 3 MAX = 4
                does 0 1 1 0 = 0
                run 0 0 = 1
                """);
    }

    /** "a SECTION (0, 1, 2), a SPECIAL (0 .. 9)"; promise 9: "BAD: no such book, SECTION, SPECIAL". */
    private static void sectionsAndSpecials() {
        Play.of(CHECK, "a rule", """
                rule 0 0 0 = BAD
                book 0 = 0
                rule -1 0 0 = BAD
                rule 1 0 0 = BAD
                rule NONE 0 0 = BAD
                rule MIN 0 0 = BAD
                rule MAX 0 0 = BAD
                rule 0 -1 0 = BAD
                rule 0 3 0 = BAD
                rule 0 MIN 0 = BAD
                rule 0 MAX 0 = BAD
                rule 0 0 -1 = BAD
                rule 0 0 10 = BAD
                rule 0 0 MIN = BAD
                rule 0 0 MAX = BAD
                rule 0 3 10 = BAD
                count 3 = 0
                row 0 0 = NONE
                rule 0 0 0 = 0
                rule 0 2 9 = 1
                rule 0 2 0 = 2
                rule 0 0 9 = 3
                rule 0 1 5 = 4
                rule 0 3 9 = BAD
                rule 0 2 10 = BAD
                count 3 = 5
                whole row 0 = 3 0 4 1 2
                """);
    }

    /** "RULES (60 in all)"; promise 9: "FULL". */
    private static void mostRules() {
        Play play = new Play(CHECK, "60 rules");
        play.say("subject 0 = 0\nbook 0 = 0\nbook 0 = 1");
        for (int rule = 0; rule < 59; rule++) {
            play.say("rule " + (rule < 30 ? 0 : 1) + " 0 0 = " + rule);
        }
        play.say("""
                count 3 = 59
                condition 59 0 0 0 = BAD
                does 59 0 0 0 = BAD
                order 59 0 0 = BAD
                condition 58 6 59 0 = BAD
                order 58 2 59 = BAD
                rule 1 0 0 = 59      # the 60th one
                rule 1 0 0 = FULL
                rule 0 0 0 = FULL    # in all, not of each book
                rule 0 2 9 = FULL
                rule 2 0 0 = BAD     # BAD comes before FULL
                rule 0 3 0 = BAD
                rule 0 0 10 = BAD
                count 3 = 60
                row 0 29 = 29
                row 0 30 = NONE
                row 1 29 = 59
                row 1 30 = NONE
                condition 60 0 0 0 = BAD
                does 60 0 0 0 = BAD
                order 60 0 0 = BAD
                condition 58 6 60 0 = BAD
                order 58 2 60 = BAD
                does 59 1 7 0 = 0
                run 1 0 = 7
                trace 29 0 = 59
                condition 58 6 59 0 = 1
                order 58 2 59 = 0
                row 1 28 = 58
                condition 59 16 58 0 = 1
                order 59 0 0 = 0
                row 1 0 = 59
                """);
        play.end();
    }

    /** "up to four CONDITIONS"; promise 10: "how many it has", "FULL: it has four". */
    private static void fourConditions() {
        Play.of(CHECK, "four conditions", """
                subject 0 = 0
                book 50 = 0
                rule 0 0 0 = 0
                rule 0 0 0 = 1
                does 0 1 1 0 = 0
                run 0 0 = 1          # it has none
                condition 0 0 0 0 = 1
                condition 0 0 0 0 = 2
                condition 0 0 0 0 = 3
                condition 0 0 0 0 = 4
                run 0 0 = 1
                condition 0 10 0 0 = FULL
                condition 0 1 0 5 = FULL
                condition 0 0 1 0 = BAD   # BAD comes before FULL
                condition 0 1 4 0 = BAD
                condition 0 5 0 0 = BAD
                condition 0 6 2 0 = BAD
                condition 0 7 0 0 = BAD
                condition 0 17 0 0 = BAD
                run 0 0 = 1          # a fifth one would not be so
                condition 1 0 0 0 = 1     # another rule has room
                """);
    }

    /** "10 and one of these"; promise 10: "BAD: no such rule, code". */
    private static void conditionCodes() {
        Play play = new Play(CHECK, "codes of conditions");
        play.say("scene 0 = 0\nbook 0 = 0");
        for (int rule = 0; rule <= 28; rule++) {
            int code = rule - 1;
            boolean there = code >= 0 && code <= 6 || code >= 10 && code <= 16;
            play.say("rule 0 0 0 = " + rule);
            play.say("condition " + rule + " " + code + " 0 0 = " + (there ? "1" : "BAD"));
        }
        for (String code : new String[] {"MIN", "MAX", "-10", "-4", "-16", "100", "106", "110"}) {
            play.say("condition 0 " + code + " 0 0 = BAD");
        }
        play.say("""
                condition -1 0 0 0 = BAD
                condition 29 0 0 0 = BAD
                condition MIN 0 0 0 = BAD
                condition MAX 0 0 0 = BAD
                condition NONE 0 0 0 = BAD
                condition 28 0 0 0 = 1
                """);
        play.end();
    }

    /** Promise 10: "x is no kind (0)". */
    private static void conditionsOfAKind() {
        for (String code : new String[] {"0", "10"}) {
            Play.of(CHECK, "a condition's kind, code " + code, Play.fill("""
                    book 0 = 0
                    rule 0 0 0 = 0
                    condition 0 {code} -1 0 = BAD
                    condition 0 {code} 1 0 = BAD
                    condition 0 {code} MIN 0 = BAD
                    condition 0 {code} MAX 0 = BAD
                    condition 0 {code} 0 MIN = 1     # y is free
                    kind 0 = 1
                    condition 0 {code} 2 0 = BAD
                    condition 0 {code} 1 MAX = 2
                    """, "code", code));
        }
    }

    /** Promise 10: "value or variable (0 .. 3)". */
    private static void conditionsOfSlots() {
        for (int code : new int[] {1, 2, 3, 4, 11, 12, 13, 14}) {
            Play.of(CHECK, "a condition's value or variable, code " + code, Play.fill("""
                    book 0 = 0
                    rule 0 0 0 = 0
                    condition 0 {code} -1 0 = BAD
                    condition 0 {code} 4 0 = BAD
                    condition 0 {code} MIN 0 = BAD
                    condition 0 {code} MAX 0 = BAD
                    condition 0 {code} 0 MIN = 1     # there need be no subject, and y is free
                    condition 0 {code} 3 MAX = 2
                    condition 0 {code} 4 0 = BAD
                    """, "code", code));
        }
    }

    /** Promise 10: "scene that there is". */
    private static void conditionsOfAScene() {
        for (String code : new String[] {"5", "15"}) {
            Play.of(CHECK, "a condition's scene, code " + code, Play.fill("""
                    book 0 = 0
                    rule 0 0 0 = 0
                    condition 0 {code} 0 0 = BAD
                    condition 0 {code} -1 0 = BAD
                    scene 0 = 0
                    condition 0 {code} 1 0 = BAD
                    condition 0 {code} -1 0 = BAD
                    condition 0 {code} MIN 0 = BAD
                    condition 0 {code} MAX 0 = BAD
                    condition 0 {code} 0 MIN = 1
                    scene 0 = 1
                    condition 0 {code} 2 0 = BAD
                    condition 0 {code} 1 MAX = 2
                    """, "code", code));
        }
    }

    /** Promise 10: "rule of the same book". */
    private static void conditionsOfARule() {
        for (String code : new String[] {"6", "16"}) {
            Play.of(CHECK, "a condition's rule, code " + code, Play.fill("""
                    book 0 = 0
                    book 0 = 1
                    rule 0 0 0 = 0
                    rule 1 0 0 = 1
                    rule 0 0 0 = 2
                    condition 0 {code} -1 0 = BAD
                    condition 0 {code} 1 0 = BAD     # it is of another book
                    condition 2 {code} 1 0 = BAD
                    condition 1 {code} 0 0 = BAD
                    condition 1 {code} 2 0 = BAD
                    condition 0 {code} 3 0 = BAD
                    condition 0 {code} MIN 0 = BAD
                    condition 0 {code} MAX 0 = BAD
                    condition 0 {code} 2 MIN = 1
                    condition 2 {code} 0 MAX = 1
                    condition 0 {code} 0 0 = 2       # itself is a rule of the same book
                    condition 1 {code} 1 0 = 1
                    """, "code", code));
        }
    }

    /** "one thing that it DOES (0 at first)". */
    private static void doesNothingAtFirst() {
        Play.of(CHECK, "what a rule does at first", """
                subject 0 = 0
                book 50 = 0
                rule 0 0 0 = 0
                rule 0 1 0 = 1
                does 1 1 9 0 = 0
                run 0 0 = 9
                whole trace = 0/1/1 1/1/1
                does 0 1 8 0 = 0
                run 0 0 = 8
                does 0 0 0 0 = 0
                run 0 0 = 9
                """);
    }

    /** Promise 11: "BAD: no such rule, code". */
    private static void deedCodes() {
        Play.of(CHECK, "codes of what rules do", """
                book 0 = 0
                does 0 0 0 0 = BAD
                rule 0 0 0 = 0
                does 0 -1 1 1 = BAD
                does 0 9 1 1 = BAD
                does 0 10 1 1 = BAD
                does 0 11 1 1 = BAD
                does 0 MIN 1 1 = BAD
                does 0 MAX 1 1 = BAD
                does -1 0 0 0 = BAD
                does 1 0 0 0 = BAD
                does NONE 0 0 0 = BAD
                does MIN 0 0 0 = BAD
                does MAX 0 0 0 = BAD
                does 0 0 MIN MAX = 0     # x and y are free for 0 and 7
                does 0 7 MAX MIN = 0
                does 0 1 1 MIN = 0
                does 0 2 0 MAX = 0
                does 0 3 0 MIN = 0
                does 0 4 0 0 = 0
                does 0 5 0 MIN = 0
                does 0 6 0 MAX = 0
                does 0 8 0 0 = 0
                """);
    }

    /** "it DECIDES x (1 .. 99)"; promise 11: "x is not 1 .. 99 (1)". */
    private static void deedsThatDecide() {
        Play.of(CHECK, "deciding 1 .. 99", """
                subject 0 = 0
                book 50 = 0
                rule 0 0 0 = 0
                does 0 1 0 0 = BAD
                does 0 1 100 0 = BAD
                does 0 1 -1 0 = BAD
                does 0 1 MIN 0 = BAD
                does 0 1 MAX 0 = BAD
                run 0 0 = 50
                does 0 1 1 0 = 0
                run 0 0 = 1
                does 0 1 0 0 = BAD
                run 0 0 = 1
                does 0 1 99 0 = 0
                run 0 0 = 99
                does 0 1 100 0 = BAD
                run 0 0 = 99
                """);
    }

    /** Promise 11: "no value or variable (2, 3, 4, 8)"; "y is no value or variable (4, 8)". */
    private static void deedsOfSlots() {
        for (int code : new int[] {2, 3, 4, 8}) {
            Play.of(CHECK, "x of what a rule does, code " + code, Play.fill("""
                    book 0 = 0
                    rule 0 0 0 = 0
                    does 0 {code} -1 0 = BAD
                    does 0 {code} 4 0 = BAD
                    does 0 {code} MIN 0 = BAD
                    does 0 {code} MAX 0 = BAD
                    does 0 {code} 0 0 = 0
                    does 0 {code} 3 0 = 0
                    does 0 {code} 0 3 = 0
                    does 0 {code} 3 3 = 0
                    does 0 {code} 4 3 = BAD
                    """, "code", code));
            String due = code == 4 || code == 8 ? "BAD" : "0";
            Play.of(CHECK, "y of what a rule does, code " + code, Play.fill("""
                    book 0 = 0
                    rule 0 0 0 = 0
                    does 0 {code} 0 -1 = {due}
                    does 0 {code} 0 4 = {due}
                    does 0 {code} 0 MIN = {due}
                    does 0 {code} 0 MAX = {due}
                    does 0 {code} 4 4 = BAD
                    """, "code", code, "due", due));
        }
    }

    /** Promise 11: "no book (5, 6)". */
    private static void deedsOfBooks() {
        for (String code : new String[] {"5", "6"}) {
            Play.of(CHECK, "a book that a rule goes to, code " + code, Play.fill("""
                    book 0 = 0
                    rule 0 0 0 = 0
                    does 0 {code} -1 0 = BAD
                    does 0 {code} 1 0 = BAD
                    does 0 {code} NONE 0 = BAD     # it must be one
                    does 0 {code} MIN 0 = BAD
                    does 0 {code} MAX 0 = BAD
                    does 0 {code} 0 0 = 0          # its own book is one
                    book 0 = 1
                    does 0 {code} 2 0 = BAD
                    does 0 {code} 1 0 = 0
                    """, "code", code));
        }
    }

    /** "they change nothing": what a rule does stays, and so do its x and y. */
    private static void refusedDeedKeepsTheOlder() {
        Play.of(CHECK, "a refused deed", """
                subject 0 = 0
                set 0 1 20 = 0
                book 50 = 0
                variable 0 2 3 = 0
                rule 0 0 0 = 0
                does 0 4 1 2 = 0
                does 0 4 0 4 = BAD
                does 0 8 4 0 = BAD
                does 0 1 100 0 = BAD
                does 0 5 1 0 = BAD
                does 0 9 0 0 = BAD
                run 0 0 = 50
                value 0 1 = 6
                does 0 3 3 8 = 0         # from now on
                run 0 0 = 50
                value 0 1 = 6
                value 0 3 = 8
                """);
    }
}
