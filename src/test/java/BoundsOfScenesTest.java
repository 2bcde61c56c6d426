/** The bounds that chapter 5 of the terms and promises 24 to 29 name. */
public final class BoundsOfScenesTest {
    private static final Check CHECK = new Check();

    public static void main(String[] args) {
        againOrNot();
        mostScenes();
        notAtFirst();
        scenesSidesAndCodes();
        clocksOfAnchors();
        scenesOfAnchors();
        valuesOfAnchors();
        neverAtFirst();
        clockIsXOrMore();
        valueIsAboveZero();
        shortestRings();
        longestRing();
        noRings();
        refusedAnchorKeepsTheOlder();
        happensAgain();
        onceATurn();
        mostEvents();
        mostRounds();
        eventsSoFar();
        eventsOfTheLatestTurn();
        howOftenItBegan();
        booksOfEveryTurn();
        subjectOfEveryTurn();
        turnsThatErr();
        CHECK.end();
    }

    /** So many scenes that may happen again, or not, and one subject. */
    private static Play withScenes(String title, int scenes, int again) {
        Play play = new Play(CHECK, title);
        play.say("subject 0 = 0");
        for (int scene = 0; scene < scenes; scene++) {
            play.say("scene " + again + " = " + scene);
        }
        return play;
    }

    private static void of(String title, int scenes, int again, String lines) {
        Play play = withScenes(title, scenes, again);
        play.say(lines);
        play.end();
    }

    /** Promise 24: "BAD: again is not 0, 1". */
    private static void againOrNot() {
        Play.of(CHECK, "again", """
                scene -1 = BAD
                scene 2 = BAD
                scene MIN = BAD
                scene MAX = BAD
                scene NONE = BAD
                count 7 = 0
                scene 0 = 0
                scene 1 = 1
                scene 2 = BAD
                count 7 = 2
                """);
    }

    /** "SCENES (8)"; promise 24: "FULL". */
    private static void mostScenes() {
        Play play = withScenes("8 scenes", 7, 0);
        play.say("""
                count 7 = 7
                happens 7 0 = BAD
                anchor 7 0 0 0 = BAD
                anchor 0 0 2 7 = BAD
                book 0 = 0
                rule 0 0 0 = 0
                condition 0 5 7 0 = BAD
                scene 1 = 7              # the 8th one
                scene 0 = FULL
                scene 1 = FULL
                scene 2 = BAD            # BAD comes before FULL
                scene -1 = BAD
                count 7 = 8
                happens 7 0 = 0
                condition 0 5 7 0 = 1
                anchor 7 0 1 1 = 0
                anchor 0 0 2 7 = 0
                turn = 2
                whole events = 14 0
                happens 7 0 = 1
                happens 8 0 = BAD
                anchor 8 0 0 0 = BAD
                anchor 0 0 2 8 = BAD
                condition 0 5 8 0 = BAD
                """);
        play.end();
    }

    /** "at first they do not"; promise 29: "BAD: no such scene, or what". */
    private static void notAtFirst() {
        Play.of(CHECK, "happens", """
                happens 0 0 = BAD
                happens 0 1 = BAD
                scene 0 = 0
                scene 1 = 1
                happens 0 0 = 0
                happens 0 1 = 0
                happens 1 0 = 0
                happens 1 1 = 0
                happens 1 -1 = BAD
                happens 1 2 = BAD
                happens 1 MIN = BAD
                happens 1 MAX = BAD
                happens -1 0 = BAD
                happens -1 1 = BAD
                happens 2 0 = BAD
                happens 2 1 = BAD
                happens NONE 0 = BAD
                happens MIN 0 = BAD
                happens MAX 1 = BAD
                happens 2 2 = BAD
                """);
    }

    /** Promise 25: "BAD: no such scene, side, code". */
    private static void scenesSidesAndCodes() {
        Play.of(CHECK, "an anchor's scene, side and code", """
                anchor 0 0 0 0 = BAD
                subject 0 = 0
                scene 0 = 0
                scene 0 = 1
                anchor -1 0 1 0 = BAD
                anchor 2 0 1 0 = BAD
                anchor NONE 0 1 0 = BAD
                anchor MIN 0 1 0 = BAD
                anchor MAX 0 1 0 = BAD
                anchor 1 -1 1 0 = BAD
                anchor 1 2 1 0 = BAD
                anchor 1 MIN 1 0 = BAD
                anchor 1 MAX 1 0 = BAD
                anchor 1 0 -1 0 = BAD
                anchor 1 0 5 0 = BAD
                anchor 1 0 MIN 0 = BAD
                anchor 1 0 MAX 0 = BAD
                turn = 0
                anchor 1 0 0 0 = 0
                anchor 1 1 0 MIN = 0     # x is free for 0
                anchor 1 1 0 MAX = 0
                turn = 0
                anchor 1 0 4 0 = 0
                anchor 1 1 4 0 = 0
                set 0 0 1 = 0
                turn = 2
                whole events = 2 3
                """);
    }

    /** Promise 25: "x is below 0 (1)". */
    private static void clocksOfAnchors() {
        for (int side = 0; side < 2; side++) {
            Play.of(CHECK, "an anchor's clock, side " + side, Play.fill("""
                    scene 0 = 0
                    anchor 0 {side} 1 -1 = BAD
                    anchor 0 {side} 1 MIN = BAD
                    anchor 0 {side} 1 0 = 0
                    anchor 0 {side} 1 1 = 0
                    anchor 0 {side} 1 MAX = 0
                    anchor 0 {side} 1 -1 = BAD
                    turn = 0
                    """, "side", side));
        }
    }

    /** Promise 25: "no scene (2, 3)". */
    private static void scenesOfAnchors() {
        for (int side = 0; side < 2; side++) {
            for (int code = 2; code <= 3; code++) {
                Play.of(CHECK, "an anchor's scene, side " + side + ", code " + code, Play.fill("""
                        scene 0 = 0
                        scene 0 = 1
                        anchor 0 {side} {code} -1 = BAD
                        anchor 0 {side} {code} 2 = BAD
                        anchor 0 {side} {code} NONE = BAD
                        anchor 0 {side} {code} MIN = BAD
                        anchor 0 {side} {code} MAX = BAD
                        anchor 0 {side} {code} 1 = 0
                        anchor 1 {side} {code} 2 = BAD
                        scene 0 = 2
                        anchor 1 {side} {code} 2 = 0
                        anchor 1 {side} {code} 3 = BAD
                        """, "side", side, "code", code));
            }
        }
    }

    /** "4 value x modulo 4 of subject x / 4"; promise 25: "of no subject that there is (4)". */
    private static void valuesOfAnchors() {
        for (int side = 0; side < 2; side++) {
            Play.of(CHECK, "an anchor's value, side " + side, Play.fill("""
                    scene 0 = 0
                    anchor 0 {side} 4 0 = BAD
                    anchor 0 {side} 4 -1 = BAD
                    subject 0 = 0
                    anchor 0 {side} 4 0 = 0
                    anchor 0 {side} 4 3 = 0
                    anchor 0 {side} 4 4 = BAD
                    anchor 0 {side} 4 7 = BAD
                    anchor 0 {side} 4 -1 = BAD
                    anchor 0 {side} 4 -3 = BAD
                    anchor 0 {side} 4 -4 = BAD
                    anchor 0 {side} 4 MIN = BAD
                    anchor 0 {side} 4 MAX = BAD
                    subject 0 = 1
                    anchor 0 {side} 4 4 = 0
                    anchor 0 {side} 4 7 = 0
                    anchor 0 {side} 4 8 = BAD
                    """, "side", side));
        }
        Play play = withScenes("the last value of the last subject", 1, 1);
        for (int subject = 1; subject < 20; subject++) {
            play.say("subject 0 = " + subject);
        }
        play.say("""
                anchor 0 0 4 80 = BAD
                anchor 0 0 4 79 = 0
                anchor 0 0 4 80 = BAD
                turn = 0
                set 19 2 1 = 0
                set 0 3 1 = 0
                turn = 0
                set 19 3 1 = 0
                turn = 1
                """);
        play.end();
    }

    /** "0 never (at first)". */
    private static void neverAtFirst() {
        of("never", 2, 1, """
                set 0 0 1 = 0
                turn = 0
                turn = 0
                anchor 0 0 1 0 = 0
                turn = 1
                turn = 0                 # its end is never
                turn = 0
                happens 0 0 = 1
                happens 1 0 = 0
                anchor 0 1 1 0 = 0
                anchor 0 0 0 0 = 0       # in place of the one that it had
                turn = 1
                turn = 0
                happens 0 0 = 0
                """);
    }

    /** "1 the CLOCK (0 at first) is x or more"; "the CLOCK is one more. Then ROUNDS". */
    private static void clockIsXOrMore() {
        of("the clock", 4, 0, """
                count 10 = 0
                anchor 0 0 1 0 = 0
                anchor 1 0 1 1 = 0
                anchor 2 0 1 2 = 0
                anchor 3 0 1 3 = 0
                anchor 3 1 1 4 = 0
                turn = 2                 # 0 and 1: the clock is 1
                count 10 = 1
                whole events = 0 2
                turn = 1                 # 2
                count 10 = 2
                whole events = 4
                turn = 1
                whole events = 6
                happens 3 0 = 1
                turn = 1
                whole events = 7
                anchor 0 1 1 3 = 0       # more
                turn = 1
                whole events = 1
                count 10 = 5
                """);
        of("the clock is far", 1, 0, """
                anchor 0 0 1 MAX = 0
                turn = 0
                turn = 0
                """);
    }

    /** "value .. is above 0". */
    private static void valueIsAboveZero() {
        for (int x = 0; x < 8; x++) {
            Play.of(CHECK, "value x = " + x, Play.fill("""
                    subject 0 = 0
                    subject 0 = 1
                    scene 1 = 0
                    anchor 0 0 4 {x} = 0
                    turn = 0                 # 0
                    set {subject} {value} -1 = 0
                    turn = 0
                    set {subject} {value} MIN = -1
                    turn = 0
                    set {other} {value} 1 = 0
                    set {subject} {beside} 1 = 0
                    turn = 0
                    set {subject} {value} 1 = MIN
                    turn = 1
                    anchor 0 1 4 {x} = 0
                    set {subject} {value} 0 = 1
                    turn = 0
                    set {subject} {value} MAX = 0
                    turn = 2                 # it ends and begins
                    """, "x", x, "subject", x / 4, "value", x % 4, "other", 1 - x / 4, "beside", (x + 1) % 4));
        }
    }

    /** "A RING: .. by one or more of them, back to it"; promise 25: "NO: there would be a RING". */
    private static void shortestRings() {
        of("rings of one", 2, 0, """
                anchor 1 0 2 1 = NO      # a beginning by itself
                anchor 1 1 3 1 = NO      # an end by itself
                anchor 1 0 2 2 = BAD     # BAD comes before NO
                anchor 1 2 3 1 = BAD
                anchor 1 0 3 1 = 0       # a beginning by its end is none
                anchor 1 0 0 0 = 0
                anchor 1 1 2 1 = 0       # nor is an end by its beginning
                """);
        of("rings of two", 2, 0, """
                anchor 0 1 2 0 = 0
                anchor 0 0 3 0 = NO      # the end by the beginning and that by the end
                anchor 1 0 2 0 = 0
                anchor 0 0 2 1 = NO
                anchor 0 0 3 1 = 0       # by the end of 1, which is never
                anchor 1 1 2 0 = NO      # the end of 1 by the beginning of 0
                anchor 1 1 3 0 = NO      # .. by the end of 0, by its beginning, by the end of 1
                anchor 1 1 1 0 = 0
                anchor 0 0 0 0 = 0
                anchor 1 1 2 0 = 0
                anchor 0 0 3 1 = NO
                """);
    }

    /** All 16 beginnings and ends in one chain, which must not be closed. */
    private static void longestRing() {
        Play play = withScenes("the longest ring", 8, 0);
        for (int scene = 0; scene < 8; scene++) {
            play.say("anchor " + scene + " 1 2 " + scene + " = 0");
            if (scene > 0) {
                play.say("anchor " + scene + " 0 3 " + (scene - 1) + " = 0");
            }
        }
        play.say("""
                anchor 0 0 3 7 = NO      # all 16
                anchor 0 0 2 7 = NO      # 15
                anchor 0 0 2 8 = BAD
                anchor 4 0 3 4 = NO      # two of them
                anchor 7 1 3 7 = NO
                anchor 0 0 1 1 = 0
                turn = 16
                whole events = 0 1 2 3 4 5 6 7 8 9 10 11 12 13 14 15
                anchor 7 1 0 0 = 0       # the chain is broken at its end
                anchor 0 0 2 7 = NO
                anchor 0 0 3 7 = 0
                anchor 7 1 2 7 = NO
                """);
        play.end();
    }

    /** Chains that meet, and anchors by clock or value, are no rings. */
    private static void noRings() {
        of("no rings", 3, 0, """
                anchor 0 1 2 0 = 0
                anchor 1 0 2 0 = 0       # many may wait for one
                anchor 1 1 2 0 = 0
                anchor 2 0 2 0 = 0
                anchor 2 1 3 1 = 0
                anchor 2 1 3 1 = 0       # the same once more, in place of itself
                anchor 0 0 1 1 = 0
                anchor 0 0 4 0 = 0
                set 0 0 1 = 0
                turn = 6
                whole events = 0 2 4 1 3 5
                """);
        of("a ring that is gone", 2, 0, """
                anchor 0 0 2 1 = 0
                anchor 1 0 2 0 = NO
                anchor 0 0 1 1 = 0
                anchor 1 0 2 0 = 0
                anchor 0 0 2 1 = NO
                turn = 2
                whole events = 0 2
                """);
    }

    /** "they change nothing": an anchor stays, with its x. */
    private static void refusedAnchorKeepsTheOlder() {
        of("a refused anchor", 2, 0, """
                anchor 0 0 1 2 = 0
                anchor 0 1 2 1 = 0
                anchor 1 0 2 0 = 0
                anchor 0 0 2 1 = NO
                anchor 0 0 2 0 = NO
                anchor 0 0 1 -1 = BAD
                anchor 0 0 4 4 = BAD
                anchor 0 0 2 2 = BAD
                anchor 0 0 5 0 = BAD
                anchor 0 1 3 0 = NO
                anchor 0 1 3 2 = BAD
                turn = 0
                turn = 3
                whole events = 0 2 1
                """);
    }

    /** "one that does not HAPPEN (and never did, or may AGAIN) begins". */
    private static void happensAgain() {
        for (int again = 0; again < 2; again++) {
            of("again = " + again, 1, again, Play.fill("""
                    anchor 0 0 1 0 = 0
                    turn = 1
                    turn = 0                 # it happens: it does not begin
                    happens 0 1 = 1
                    anchor 0 0 0 0 = 0
                    anchor 0 1 1 0 = 0
                    turn = 1
                    whole events = 1
                    turn = 0                 # it does not happen: it does not end
                    anchor 0 1 0 0 = 0
                    anchor 0 0 1 0 = 0
                    turn = {again}
                    happens 0 0 = {again}
                    happens 0 1 = {times}
                    turn = 0
                    """, "again", again, "times", 1 + again));
        }
    }

    /** "In a TURN each scene begins once, and ends once at most". */
    private static void onceATurn() {
        of("once a turn", 1, 1, """
                anchor 0 0 1 0 = 0
                anchor 0 1 1 0 = 0
                turn = 2
                whole events = 0 1
                happens 0 0 = 0          # it would begin, but it did so once
                turn = 2
                whole events = 0 1
                anchor 0 1 1 4 = 0
                turn = 1
                whole events = 0
                turn = 2
                whole events = 1 0
                happens 0 0 = 1          # it would end, but it did so once
                turn = 2
                whole events = 1 0
                happens 0 1 = 5
                """);
        of("once a turn, and not again", 1, 0, """
                anchor 0 0 1 0 = 0
                anchor 0 1 1 0 = 0
                turn = 2
                whole events = 0 1
                turn = 0
                happens 0 1 = 1
                """);
    }

    /** Promise 28: "NONE: none such": 16 events are the most that a turn may have. */
    private static void mostEvents() {
        Play play = withScenes("16 events", 8, 1);
        play.say("event 0 = NONE\nevent -1 = NONE");
        for (int scene = 0; scene < 8; scene++) {
            play.say("anchor " + scene + " 0 1 0 = 0\nanchor " + scene + " 1 1 0 = 0");
        }
        play.say("""
                event 0 = NONE
                turn = 16
                event 0 = 0              # twice the scene
                event 7 = 14
                event 8 = 1              # and 1 for an end
                event 15 = 15
                event 16 = NONE
                event -1 = NONE
                event MIN = NONE
                event MAX = NONE
                turn = 16
                event 15 = 15
                """);
        play.end();
    }

    /** "ROUNDS, till one changes nothing": there may be as many as there are events. */
    private static void mostRounds() {
        Play play = withScenes("a round for each event", 8, 1);
        play.say("anchor 7 0 1 1 = 0\nanchor 0 1 2 0 = 0");
        for (int scene = 0; scene < 7; scene++) {
            play.say("anchor " + scene + " 0 2 " + (scene + 1) + " = 0");
            play.say("anchor " + (scene + 1) + " 1 3 " + scene + " = 0");
        }
        play.say("""
                turn = 16
                whole events = 14 12 10 8 6 4 2 0 1 3 5 7 9 11 13 15
                """);
        play.end();
        Play other = withScenes("one round of all", 8, 1);
        other.say("anchor 0 0 1 1 = 0");
        for (int scene = 1; scene < 8; scene++) {
            other.say("anchor " + scene + " 0 2 " + (scene - 1) + " = 0");
        }
        other.say("turn = 8\nwhole events = 0 2 4 6 8 10 12 14");
        other.end();
    }

    /** "2, 3: met, if that is among this TURN's EVENTS so far". */
    private static void eventsSoFar() {
        of("events so far", 3, 1, """
                anchor 1 0 1 1 = 0
                anchor 0 0 2 1 = 0       # comes before 1 in the round: in the next one
                anchor 2 0 2 1 = 0       # comes behind it
                turn = 3
                whole events = 2 4 0
                anchor 0 1 2 1 = 0       # 1 begins no more: that was an earlier turn
                anchor 2 1 2 1 = 0
                turn = 0
                anchor 1 1 1 1 = 0
                anchor 0 1 3 1 = 0
                anchor 2 1 3 1 = 0
                anchor 1 0 0 0 = 0
                turn = 3
                whole events = 3 5 1
                turn = 0
                """);
        of("an end is no beginning", 2, 1, """
                anchor 0 0 1 1 = 0
                anchor 1 0 3 0 = 0
                turn = 1
                anchor 0 1 1 1 = 0
                anchor 0 0 0 0 = 0
                anchor 1 0 2 0 = 0
                turn = 1
                whole events = 1
                """);
        of("one thing in a round", 2, 1, """
                anchor 0 0 1 1 = 0
                turn = 1
                anchor 0 1 1 1 = 0
                anchor 1 0 3 0 = 0
                turn = 3
                whole events = 1 2 0     # 0 may begin again when it comes to it again
                """);
    }

    /** Promise 28: "of the latest TURN". */
    private static void eventsOfTheLatestTurn() {
        of("the latest turn", 2, 0, """
                event 0 = NONE
                anchor 0 0 1 1 = 0
                anchor 1 0 1 1 = 0
                turn = 2
                event 1 = 2
                event 2 = NONE
                anchor 0 1 1 2 = 0       # no other call changes them
                scene 0 = 2
                happens 0 0 = 1
                event 1 = 2
                turn = 1
                event 0 = 1
                event 1 = NONE
                turn = 0
                event 0 = NONE
                """);
    }

    /** Promise 29: "how often it began". */
    private static void howOftenItBegan() {
        of("how often", 2, 1, """
                anchor 1 0 1 2 = 0
                anchor 1 1 1 4 = 0
                turn = 0
                happens 1 1 = 0
                turn = 1
                happens 1 1 = 1
                turn = 0
                happens 1 1 = 1
                turn = 2                 # it ends and begins
                happens 1 1 = 2
                turn = 2
                happens 1 1 = 3
                happens 1 0 = 1
                happens 0 1 = 0
                anchor 1 0 0 0 = 0
                turn = 1                 # an end does not count
                happens 1 1 = 3
                happens 1 0 = 0
                """);
    }

    /** Promise 26: "(NONE: none)", "BAD: no such book". */
    private static void booksOfEveryTurn() {
        Play.of(CHECK, "the book of every turn", """
                subject 0 = 0
                everyTurn 0 = BAD
                everyTurn NONE = 0
                book 9 = 0
                rule 0 0 0 = 0
                turn = 0
                count 9 = 0              # there is none at first
                everyTurn 0 = 0
                turn = 0
                count 9 = 1
                book 9 = 1
                rule 1 0 0 = 1
                rule 1 0 0 = 2
                everyTurn -1 = BAD
                everyTurn -2 = BAD
                everyTurn -3 = BAD
                everyTurn -5 = BAD
                everyTurn 2 = BAD
                everyTurn MIN = BAD
                everyTurn MAX = BAD
                turn = 0
                count 9 = 1              # book 0 still
                everyTurn 1 = 0          # in place of it
                turn = 0
                count 9 = 2
                run 0 0 = 9
                everyTurn NONE = 0
                turn = 0
                count 9 = 1              # there was no run
                """);
    }

    /** "has a RUN for subject 0, if there is that". */
    private static void subjectOfEveryTurn() {
        Play.of(CHECK, "the subject of every turn", """
                book 9 = 0
                rule 0 0 0 = 0
                does 0 3 0 7 = 0
                everyTurn 0 = 0
                scene 1 = 0
                anchor 0 0 1 0 = 0
                condition 0 5 0 0 = 1
                turn = 1                 # without a subject there is no run
                count 9 = 0
                count 10 = 1
                subject 0 = 0
                subject 0 = 1
                turn = 0
                count 9 = 1
                value 0 0 = 7
                value 1 0 = 0
                does 0 1 99 0 = 0
                anchor 0 1 1 0 = 0
                anchor 0 0 4 0 = 0
                turn = 2                 # events are answered, no outcome
                whole trace = 0/1/1
                set 0 0 0 = 7
                turn = 1
                whole trace = 0/0/1      # the run comes behind the rounds
                """);
    }

    /** Promise 27: "how many EVENTS there were; -10 less the rule that ERRS". */
    private static void turnsThatErr() {
        of("a turn that errs", 2, 0, """
                book 9 = 0
                rule 0 0 0 = 0
                does 0 4 0 0 = 0
                everyTurn 0 = 0
                anchor 0 0 1 1 = 0
                anchor 1 0 1 1 = 0
                turn = -10
                erred = 1
                count 10 = 1             # the turn was taken
                whole events = 0 2
                happens 1 0 = 1
                turn = -10
                count 10 = 2
                event 0 = NONE
                variable 0 0 1 = 0
                turn = 0
                erred = 0
                anchor 1 1 1 1 = 0
                turn = 1
                """);
    }
}
