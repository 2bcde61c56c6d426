/** The bounds that chapter 6 of the terms and promises 30 to 32 name. */
public final class BoundsOfPhrasesTest {
    private static final Check CHECK = new Check();

    public static void main(String[] args) {
        namesAndKinds();
        sameNameAndKinds();
        mostPhrases();
        namesAndSubjects();
        whatIsMeant();
        theMostSpecial();
        twoOrOne();
        subjectsOneByOne();
        whatIsCounted();
        CHECK.end();
    }

    /** "a NAME (0 .. 9) and two kinds"; promise 30: "BAD: no such name, kinds". */
    private static void namesAndKinds() {
        Play.of(CHECK, "a phrase's name and kinds", """
                phrase -1 0 0 = BAD
                phrase 10 0 0 = BAD
                phrase MIN 0 0 = BAD
                phrase MAX 0 0 = BAD
                phrase 0 -1 0 = BAD
                phrase 0 1 0 = BAD
                phrase 0 MIN 0 = BAD
                phrase 0 MAX 0 = BAD
                phrase 0 0 -1 = BAD
                phrase 0 0 1 = BAD
                phrase 0 0 MIN = BAD
                phrase 0 0 MAX = BAD
                count 8 = 0
                phrase 0 0 0 = 0
                phrase 9 0 0 = 1
                kind 0 = 1
                phrase 0 1 0 = 2
                phrase 9 0 1 = 3
                phrase 0 2 0 = BAD
                phrase 0 0 2 = BAD
                count 8 = 4
                """);
    }

    /** Promise 30: "NO: one of this NAME has these kinds". */
    private static void sameNameAndKinds() {
        Play.of(CHECK, "the same kinds", """
                kind 0 = 1
                phrase 3 1 0 = 0
                phrase 3 1 0 = NO
                phrase 3 0 1 = 1         # the other way
                phrase 3 0 1 = NO
                phrase 4 1 0 = 2         # another name
                phrase 2 1 0 = 3
                phrase 3 1 1 = 4
                phrase 3 0 0 = 5
                phrase 3 1 0 = NO
                phrase 3 1 2 = BAD
                count 8 = 6
                """);
    }

    /** "PHRASES (40)"; promise 30: "FULL". */
    private static void mostPhrases() {
        Play play = new Play(CHECK, "40 phrases");
        for (int kind = 1; kind < 20; kind++) {
            play.say("kind " + (kind - 1) + " = " + kind);
        }
        play.say("subject 19 = 0\nsubject 0 = 1");
        for (int phrase = 0; phrase < 39; phrase++) {
            play.say("phrase 7 " + phrase / 2 + " " + phrase % 2 + " = " + phrase);
        }
        play.say("""
                count 8 = 39
                choose 7 0 0 = TWO       # (19, 0) and (18, 1)
                phrase 7 19 1 = 39       # the 40th one
                phrase 7 19 2 = FULL
                phrase 0 0 0 = FULL
                phrase 7 19 1 = NO       # NO comes before FULL
                phrase 7 0 0 = NO
                phrase 10 19 2 = BAD     # BAD comes before both
                phrase 7 20 1 = BAD
                phrase 7 19 20 = BAD
                count 8 = 40
                choose 7 0 0 = 39
                choose 7 1 1 = 0
                choose 0 1 1 = NONE
                """);
        play.end();
    }

    /** Promise 31: "BAD: no such name, subjects". */
    private static void namesAndSubjects() {
        Play.of(CHECK, "a name and subjects", """
                phrase 0 0 0 = 0
                phrase 9 0 0 = 1
                choose 0 0 0 = BAD       # there is a kind 0, but no subject 0
                subject 0 = 0
                choose -1 0 0 = BAD
                choose 10 0 0 = BAD
                choose MIN 0 0 = BAD
                choose MAX 0 0 = BAD
                choose 0 -1 0 = BAD
                choose 0 1 0 = BAD
                choose 0 MIN 0 = BAD
                choose 0 MAX 0 = BAD
                choose 0 0 -1 = BAD
                choose 0 0 1 = BAD
                choose 0 0 MIN = BAD
                choose 0 0 MAX = BAD
                choose 0 0 0 = 0
                choose 9 0 0 = 1
                choose 1 0 0 = NONE
                choose 8 0 0 = NONE
                subject 0 = 1
                choose 0 1 1 = 0
                choose 0 2 1 = BAD
                choose 0 1 2 = BAD
                """);
    }

    /** "those are MEANT whose kinds the subjects' kinds are UNDER, one by one"; "NONE: none is MEANT". */
    private static void whatIsMeant() {
        Play.of(CHECK, "what is meant", """
                kind 0 = 1
                kind 1 = 2
                kind 1 = 3
                subject 0 = 0
                subject 1 = 1
                subject 2 = 2
                subject 3 = 3
                choose 0 2 2 = NONE
                phrase 0 1 2 = 0
                choose 0 1 2 = 0         # the kinds themselves
                choose 0 2 2 = 0         # under the first
                choose 0 3 2 = 0
                choose 0 0 2 = NONE      # above the first
                choose 0 1 1 = NONE      # above the second
                choose 0 1 3 = NONE      # beside the second
                choose 0 2 1 = NONE      # the other way
                choose 1 1 2 = NONE      # another name
                """);
    }

    /** "the MOST SPECIAL of these is the one whose kinds are UNDER those of each other one". */
    private static void theMostSpecial() {
        Play.of(CHECK, "the most special", """
                kind 0 = 1
                kind 1 = 2
                subject 2 = 0
                subject 1 = 1
                phrase 5 0 0 = 0
                choose 5 0 0 = 0         # the only one
                phrase 5 0 1 = 1
                choose 5 0 0 = 1         # its first kind is the same
                phrase 5 1 1 = 2
                choose 5 0 0 = 2
                phrase 5 1 0 = 3
                choose 5 0 0 = 2         # still
                phrase 5 2 2 = 4
                choose 5 0 0 = 4
                choose 5 1 1 = 2         # 4 is not meant
                choose 5 1 0 = 2
                phrase 4 2 2 = 5         # another name
                choose 5 0 0 = 4
                """);
    }

    /** "TWO: some are, but none is the MOST SPECIAL". */
    private static void twoOrOne() {
        Play.of(CHECK, "two", """
                kind 0 = 1
                kind 1 = 2
                subject 2 = 0
                subject 1 = 1
                phrase 5 2 1 = 0
                choose 5 0 0 = 0
                phrase 5 1 2 = 1
                choose 5 0 0 = TWO
                choose 5 0 1 = 0         # one alone is meant
                choose 5 1 0 = 1
                choose 5 1 1 = NONE
                phrase 5 1 1 = 2         # less special than both
                choose 5 0 0 = TWO
                choose 5 1 1 = 2
                phrase 5 2 0 = 3         # less special than the first, not than the second
                choose 5 0 0 = TWO
                phrase 6 2 2 = 4         # another name
                choose 5 0 0 = TWO
                phrase 5 2 2 = 5         # more special than all
                choose 5 0 0 = 5
                choose 5 0 1 = 0
                """);
    }

    /** The first and the second subject may be the same, or two of a kind. */
    private static void subjectsOneByOne() {
        Play.of(CHECK, "one by one", """
                kind 0 = 1
                kind 0 = 2
                subject 1 = 0
                subject 2 = 1
                phrase 0 1 2 = 0
                phrase 0 2 1 = 1
                phrase 0 0 0 = 2
                choose 0 0 1 = 0
                choose 0 1 0 = 1
                choose 0 0 0 = 2
                choose 0 1 1 = 2
                phrase 0 1 0 = 3
                choose 0 0 0 = 3
                choose 0 0 1 = 0
                """);
    }

    /** Promise 32: "BAD: another what". */
    private static void whatIsCounted() {
        Play.of(CHECK, "what is counted", """
                count -1 = BAD
                count 11 = BAD
                count MIN = BAD
                count MAX = BAD
                count 0 = 1
                count 10 = 0
                kind 0 = 1
                subject 0 = 0
                subject 0 = 1
                book 0 = 0
                book 0 = 1
                book 0 = 2
                rule 0 0 0 = 0
                rule 0 0 0 = 1
                rule 0 0 0 = 2
                rule 0 0 0 = 3
                action 0 0 NONE NONE NONE NONE = 0
                activity NONE NONE NONE = 0
                activity NONE NONE NONE = 1
                begin 0 0 = 0
                begin 0 0 = 0
                begin 1 0 = 0
                scene 0 = 0
                phrase 0 0 0 = 0
                phrase 1 0 0 = 1
                act 0 0 = 0
                turn = 0
                turn = 0
                turn = 0
                whole counts = 2 2 3 4 1 2 3 1 2 8 3
                count 11 = BAD
                count -1 = BAD
                """);
    }
}
