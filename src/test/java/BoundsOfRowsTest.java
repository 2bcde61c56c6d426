/** The bounds of THE ROW and its ORDERS, in chapter 2 of the terms, and of promises 12 and 13. */
public final class BoundsOfRowsTest {
    private static final Check CHECK = new Check();

    public static void main(String[] args) {
        placesOfARow();
        bySections();
        bySpecial();
        byHowManyConditions();
        byTheSumOfDeeps();
        greatestSumOfDeeps();
        whatOrdersAreRefused();
        whatOrdersAreFree();
        ordersThatMoveNothing();
        ordersAtTheEnds();
        ordersOfTheOnlyRule();
        ordersBeyondSections();
        insteadOfANeighbour();
        inTheOrderTold();
        oneOrderAtMost();
        refusedOrderKeepsTheOlder();
        goneWhateverItsOrder();
        aboutARuleThatIsGone();
        staysWhereItIs();
        backWithANewOrder();
        ranksChangeBelowOrders();
        CHECK.end();
    }

    /** A book 0 with so many rules, all alike. */
    private static Play withRules(String title, int rules) {
        Play play = new Play(CHECK, title);
        play.say("book 0 = 0");
        for (int rule = 0; rule < rules; rule++) {
            play.say("rule 0 1 5 = " + rule);
        }
        return play;
    }

    private static void of(String title, int rules, String lines) {
        Play play = withRules(title, rules);
        play.say(lines);
        play.end();
    }

    /** Promise 13: "NONE: none such. BAD: no such book." */
    private static void placesOfARow() {
        Play.of(CHECK, "places of a row", """
                row 0 0 = BAD
                book 0 = 0
                row 0 0 = NONE       # without a rule
                row 0 -1 = NONE
                rule 0 1 5 = 0
                row 0 0 = 0
                row 0 1 = NONE
                rule 0 1 5 = 1
                rule 0 1 5 = 2
                row 0 -1 = NONE
                row 0 0 = 0
                row 0 2 = 2
                row 0 3 = NONE
                row 0 MIN = NONE
                row 0 MAX = NONE
                row -1 0 = BAD
                row 1 0 = BAD
                row NONE 0 = BAD
                row MIN 0 = BAD
                row MAX 0 = BAD
                row 1 -1 = BAD
                order 0 5 0 = 0
                row 0 1 = 2
                row 0 2 = NONE       # just what is in the row has a place
                order 1 5 0 = 0
                order 2 5 0 = 0
                row 0 0 = NONE
                """);
    }

    /** "all its rules, by SECTIONS". */
    private static void bySections() {
        Play.of(CHECK, "by sections", """
                book 0 = 0
                book 0 = 1
                rule 0 2 9 = 0
                rule 0 1 9 = 1
                rule 1 0 0 = 2
                rule 0 0 0 = 3
                condition 0 0 0 0 = 1
                condition 1 0 0 0 = 1
                whole row 0 = 3 1 0
                whole row 1 = 2
                """);
    }

    /** "those of a SECTION by SPECIAL, the greatest first". */
    private static void bySpecial() {
        Play.of(CHECK, "by special", """
                book 0 = 0
                rule 0 1 0 = 0
                rule 0 1 1 = 1
                rule 0 1 9 = 2
                rule 0 1 8 = 3
                rule 0 1 8 = 4
                condition 0 0 0 0 = 1
                condition 0 0 0 0 = 2
                condition 0 0 0 0 = 3
                condition 0 0 0 0 = 4
                whole row 0 = 2 3 4 1 0
                """);
    }

    /** "of like ones by how many CONDITIONS, most first". */
    private static void byHowManyConditions() {
        Play play = withRules("by how many conditions", 6);
        play.say("whole row 0 = 0 1 2 3 4 5");
        for (int rule = 0; rule < 5; rule++) {
            for (int had = 1; had <= rule; had++) {
                play.say("condition " + rule + " " + (had % 2 == 0 ? 1 : 14) + " 0 0 = " + had);
            }
        }
        play.say("""
                whole row 0 = 4 3 2 1 0 5
                condition 4 1 0 0 = FULL
                whole row 0 = 4 3 2 1 0 5
                condition 5 1 4 0 = BAD
                whole row 0 = 4 3 2 1 0 5
                condition 5 1 0 0 = 1
                whole row 0 = 4 3 2 1 5 0
                """);
        play.end();
        of("by how many conditions, the older ones having more", 3, """
                condition 0 1 0 0 = 1
                condition 0 1 0 0 = 2
                condition 1 0 0 0 = 1
                whole row 0 = 0 1 2
                condition 2 0 0 0 = 1
                condition 2 0 0 0 = 2
                condition 2 0 0 0 = 3
                whole row 0 = 2 0 1
                """);
    }

    /** "its DEEP is how many kinds it is under, less 1"; "the sum of the DEEPs .. 0 (not 10)". */
    private static void byTheSumOfDeeps() {
        Play play = withRules("by the sum of deeps", 6);
        play.say("""
                kind 0 = 1
                kind 1 = 2
                kind 2 = 3
                condition 0 1 0 0 = 1
                condition 1 0 0 0 = 1        # kind 0 is 0 deep: as if there were none
                condition 2 10 3 0 = 1       # 10 does not count
                condition 3 0 1 0 = 1
                condition 4 0 2 0 = 1
                condition 5 0 3 0 = 1
                whole row 0 = 5 4 3 0 1 2
                condition 0 0 3 0 = 2        # 3
                condition 1 0 3 0 = 2        # 0 and 3
                condition 2 0 3 0 = 2        # 3 alone
                condition 3 0 2 0 = 2        # 1 and 2
                condition 4 0 2 0 = 2        # 2 and 2
                condition 5 10 3 0 = 2       # 3 alone
                whole row 0 = 4 0 1 2 3 5
                condition 5 0 0 0 = 3        # how many goes before how deep
                whole row 0 = 5 4 0 1 2 3
                """);
        play.end();
    }

    /** Four conditions of the deepest kind: nothing is deeper. */
    private static void greatestSumOfDeeps() {
        Play play = withRules("the greatest sum of deeps", 3);
        for (int kind = 1; kind < 20; kind++) {
            play.say("kind " + (kind - 1) + " = " + kind);
        }
        for (int had = 1; had <= 4; had++) {
            play.say("condition 0 0 " + (had < 4 ? 19 : 17) + " 0 = " + had);
            play.say("condition 1 0 " + (had < 4 ? 19 : 18) + " 0 = " + had);
            play.say("condition 2 0 19 0 = " + had);
        }
        play.say("whole row 0 = 2 1 0");
        play.end();
    }

    /** Promise 12: "BAD: no such rule, how (0 .. 5); for 2 to 4 other is no other rule of the same book". */
    private static void whatOrdersAreRefused() {
        of("refused orders", 3, """
                book 0 = 1
                rule 1 0 0 = 3
                order -1 0 0 = BAD
                order 4 0 0 = BAD
                order NONE 0 0 = BAD
                order MIN 0 0 = BAD
                order MAX 0 0 = BAD
                order 2 -1 0 = BAD
                order 2 6 0 = BAD
                order 2 MIN 0 = BAD
                order 2 MAX 0 = BAD
                order 2 2 2 = BAD        # itself is no other one
                order 2 3 2 = BAD
                order 2 4 2 = BAD
                order 2 2 3 = BAD        # it is of another book
                order 2 3 3 = BAD
                order 2 4 3 = BAD
                order 3 2 0 = BAD
                order 3 3 0 = BAD
                order 3 4 0 = BAD
                order 2 2 4 = BAD        # there is no such rule
                order 2 3 4 = BAD
                order 2 4 4 = BAD
                order 2 2 -1 = BAD
                order 2 3 -1 = BAD
                order 2 4 -1 = BAD
                order 2 2 NONE = BAD
                order 2 2 MIN = BAD
                order 2 4 MAX = BAD
                whole row 0 = 0 1 2
                whole row 1 = 3
                order 2 2 1 = 0
                whole row 0 = 0 2 1
                order 2 2 0 = 0
                whole row 0 = 2 0 1
                """);
    }

    /** For 0, 1 and 5 other is free. */
    private static void whatOrdersAreFree() {
        of("other is free", 3, """
                book 0 = 1
                rule 1 0 0 = 3
                order 2 0 MIN = 0
                whole row 0 = 2 0 1
                order 2 1 MAX = 0
                whole row 0 = 0 1 2
                order 2 0 3 = 0          # of another book
                whole row 0 = 2 0 1
                order 2 1 2 = 0          # itself
                whole row 0 = 0 1 2
                order 2 5 -1 = 0
                whole row 0 = 0 1
                order 2 0 4 = 0          # none such
                whole row 0 = 2 0 1
                """);
    }

    /** A rule that stands there already stays. */
    private static void ordersThatMoveNothing() {
        of("orders that move nothing", 4, """
                order 0 0 0 = 0          # the first to the beginning
                whole row 0 = 0 1 2 3
                order 3 1 0 = 0          # the last to the end
                whole row 0 = 0 1 2 3
                order 1 2 2 = 0          # before the next
                whole row 0 = 0 1 2 3
                order 2 3 1 = 0          # behind the one before
                whole row 0 = 0 1 2 3
                """);
    }

    /** "it comes to stand just so": before the first, behind the last, instead of both. */
    private static void ordersAtTheEnds() {
        of("before the first", 3, "order 2 2 0 = 0\nwhole row 0 = 2 0 1");
        of("before the last", 3, "order 0 2 2 = 0\nwhole row 0 = 1 0 2");
        of("behind the first", 3, "order 2 3 0 = 0\nwhole row 0 = 0 2 1");
        of("behind the last", 3, "order 0 3 2 = 0\nwhole row 0 = 1 2 0");
        of("instead of the first", 3, "order 2 4 0 = 0\nwhole row 0 = 2 1");
        of("instead of the last", 3, "order 0 4 2 = 0\nwhole row 0 = 1 0");
        of("the first unlisted", 3, "order 0 5 0 = 0\nwhole row 0 = 1 2");
        of("the last unlisted", 3, "order 2 5 0 = 0\nwhole row 0 = 0 1");
        of("the first goes last", 3, "order 0 1 0 = 0\nwhole row 0 = 1 2 0");
        of("the last goes first", 3, "order 2 0 0 = 0\nwhole row 0 = 2 0 1");
    }

    private static void ordersOfTheOnlyRule() {
        of("the only rule", 1, """
                order 0 0 0 = 0
                whole row 0 = 0
                order 0 1 0 = 0
                whole row 0 = 0
                order 0 2 0 = BAD
                order 0 3 0 = BAD
                order 0 4 0 = BAD
                order 0 2 1 = BAD
                whole row 0 = 0
                order 0 5 0 = 0
                row 0 0 = NONE
                count 3 = 1              # it is not in the row, but it is there
                order 0 1 0 = 0
                whole row 0 = 0
                """);
        of("two rules", 2, """
                order 0 4 1 = 0
                whole row 0 = 0
                order 0 3 1 = 0
                whole row 0 = 1 0
                order 1 4 0 = 0
                whole row 0 = 1
                order 1 5 0 = 0
                whole row 0 = 0
                """);
    }

    /** "the beginning, the end, of all that is in the row": sections do not hold orders back. */
    private static void ordersBeyondSections() {
        Play.of(CHECK, "beyond sections", """
                book 0 = 0
                rule 0 0 0 = 0
                rule 0 0 0 = 1
                rule 0 1 0 = 2
                rule 0 2 9 = 3
                rule 0 2 0 = 4
                order 4 0 0 = 0
                whole row 0 = 4 0 1 2 3
                order 0 1 0 = 0
                whole row 0 = 4 1 2 3 0
                order 3 2 1 = 0
                whole row 0 = 4 3 1 2 0
                order 1 3 2 = 0
                whole row 0 = 4 3 2 1 0
                order 2 4 0 = 0
                whole row 0 = 4 3 1 2
                """);
    }

    /** "it comes to where that stands, and that goes from the row". */
    private static void insteadOfANeighbour() {
        of("instead of the next", 4, "order 1 4 2 = 0\nwhole row 0 = 0 1 3");
        of("instead of the one before", 4, "order 2 4 1 = 0\nwhole row 0 = 0 2 3");
        of("instead of one far behind", 4, "order 0 4 2 = 0\nwhole row 0 = 1 0 3");
        of("instead of one far before", 4, "order 3 4 1 = 0\nwhole row 0 = 0 3 2");
    }

    /** "in the order in which they were told". */
    private static void inTheOrderTold() {
        of("two that are first", 3, "order 1 0 0 = 0\norder 2 0 0 = 0\nwhole row 0 = 2 1 0");
        of("two that are first, told the other way", 3, "order 2 0 0 = 0\norder 1 0 0 = 0\nwhole row 0 = 1 2 0");
        of("two that are last", 3, "order 1 1 0 = 0\norder 0 1 0 = 0\nwhole row 0 = 2 1 0");
        of("before one that moves later", 3, "order 2 2 0 = 0\norder 0 1 0 = 0\nwhole row 0 = 2 1 0");
        of("before one that moved", 3, "order 0 1 0 = 0\norder 2 2 0 = 0\nwhole row 0 = 1 2 0");
        of("one before the other and that before it", 2, """
                order 0 3 1 = 0
                order 1 3 0 = 0
                whole row 0 = 0 1
                """);
    }

    /** "each rule having one at most (a new one takes the place of the one .. and counts as told then)". */
    private static void oneOrderAtMost() {
        of("a new order", 4, """
                order 3 0 0 = 0
                order 2 0 0 = 0
                whole row 0 = 2 3 0 1
                order 3 0 0 = 0          # the same, but it counts as told then
                whole row 0 = 3 2 0 1
                order 1 2 2 = 0
                whole row 0 = 3 1 2 0
                order 2 1 0 = 0          # it is not first any more when 1 comes to stand before it
                whole row 0 = 3 0 1 2
                order 3 1 0 = 0
                whole row 0 = 0 1 2 3
                order 3 5 0 = 0
                whole row 0 = 0 1 2
                """);
        of("the order that it had is gone", 4, """
                order 1 0 0 = 0
                order 3 2 1 = 0
                whole row 0 = 3 1 0 2
                order 1 1 0 = 0          # 1 is in its old place when 3 comes to stand before it
                whole row 0 = 0 3 2 1
                order 1 5 0 = 0
                whole row 0 = 0 3 2
                order 1 4 0 = 0          # 0 goes
                whole row 0 = 1 3 2
                """);
    }

    /** "they change nothing": neither the order that a rule had, nor when it was told. */
    private static void refusedOrderKeepsTheOlder() {
        of("a refused order", 4, """
                order 1 0 0 = 0
                order 2 0 0 = 0
                whole row 0 = 2 1 0 3
                order 1 6 0 = BAD
                order 1 -1 0 = BAD
                order 1 2 1 = BAD
                order 1 3 4 = BAD
                order 1 4 -1 = BAD
                whole row 0 = 2 1 0 3
                order 3 3 1 = 0
                order 3 2 3 = BAD
                order 3 4 4 = BAD
                whole row 0 = 2 1 3 0
                """);
    }

    /** "A rule that is not in the row any more then stays so, whatever its order". */
    private static void goneWhateverItsOrder() {
        for (int how = 0; how <= 5; how++) {
            of("gone, how " + how, 4, Play.fill("""
                    order 1 4 2 = 0      # 2 goes
                    whole row 0 = 0 1 3
                    order 2 {how} 3 = 0
                    whole row 0 = 0 1 3
                    """, "how", how));
        }
        of("back where it was told before that", 4, """
                order 2 0 0 = 0          # 2 is first, and then 1 comes instead of it
                order 1 4 2 = 0
                whole row 0 = 1 0 3
                """);
    }

    /** "with an order about a rule that is not in the row any more a rule stays where it is". */
    private static void aboutARuleThatIsGone() {
        for (int how = 2; how <= 4; how++) {
            of("about one unlisted, how " + how, 4, Play.fill("""
                    order 0 5 0 = 0
                    order 2 {how} 0 = 0
                    whole row 0 = 1 2 3
                    """, "how", how));
            of("about one that another stands instead of, how " + how, 4, Play.fill("""
                    order 1 4 3 = 0
                    whole row 0 = 0 2 1
                    order 2 {how} 3 = 0
                    whole row 0 = 0 2 1
                    """, "how", how));
        }
        of("about one that goes later", 4, """
                order 3 2 1 = 0
                order 1 5 0 = 0
                whole row 0 = 0 3 2
                """);
        of("instead of one that goes later", 4, """
                order 3 4 1 = 0
                order 1 5 0 = 0
                whole row 0 = 0 3 2
                """);
    }

    /** It stays where the orders before brought it, not where it came from. */
    private static void staysWhereItIs() {
        of("stays where it is", 5, """
                order 0 5 0 = 0
                order 1 1 0 = 0
                whole row 0 = 2 3 4 1
                order 1 2 0 = 0          # in place of that, and about one that is gone
                whole row 0 = 1 2 3 4
                order 4 0 0 = 0
                whole row 0 = 4 1 2 3
                order 3 4 4 = 0
                whole row 0 = 3 1 2
                order 2 3 4 = 0          # 4 is gone
                whole row 0 = 3 1 2
                """);
    }

    /** An order that is gone moves nothing any more. */
    private static void backWithANewOrder() {
        of("back again", 4, """
                order 1 4 0 = 0
                whole row 0 = 1 2 3
                order 0 1 0 = 0
                whole row 0 = 1 2 3      # 0 goes before it would come last
                order 1 1 0 = 0
                whole row 0 = 2 3 0 1    # no one stands instead of it now
                order 2 5 0 = 0
                whole row 0 = 3 0 1
                order 2 3 3 = 0
                whole row 0 = 3 2 0 1
                """);
    }

    /** Orders are told of the row as it is by ranks, whenever those change. */
    private static void ranksChangeBelowOrders() {
        of("ranks below orders", 3, """
                order 2 2 1 = 0
                whole row 0 = 0 2 1
                condition 1 0 0 0 = 1
                whole row 0 = 2 1 0
                rule 0 0 0 = 3
                whole row 0 = 3 2 1 0
                order 0 0 0 = 0
                whole row 0 = 0 3 2 1
                rule 0 0 9 = 4
                whole row 0 = 0 4 3 2 1
                """);
    }
}
