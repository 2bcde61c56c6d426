/** One object with all that the terms allow, at once: FULL everywhere, and all of it still works. */
public final class BoundsOfAFullObjectTest {
    private static final Check CHECK = new Check();

    public static void main(String[] args) {
        Play play = new Play(CHECK, "a full object");
        fillKinds(play);
        fillBooks(play);
        fillScenes(play);
        refuseAll(play);
        useAll(play);
        play.end();
        CHECK.end();
    }

    private static void fillKinds(Play play) {
        for (int kind = 1; kind < 20; kind++) {
            play.say("kind " + (kind - 1) + " = " + kind);
        }
        for (int subject = 0; subject < 20; subject++) {
            play.say("subject " + subject + " = " + subject);
        }
        for (int phrase = 0; phrase < 40; phrase++) {
            play.say("phrase " + phrase % 10 + " " + phrase / 10 + " " + phrase / 10 + " = " + phrase);
        }
    }

    private static void fillBooks(Play play) {
        for (int book = 0; book < 12; book++) {
            play.say("book " + (88 + book) + " = " + book);
            for (int i = 0; i < 5; i++) {
                play.say("rule " + book + " " + i % 3 + " " + i + " = " + (5 * book + i));
            }
        }
        for (int action = 0; action < 8; action++) {
            play.say("action NONE NONE NONE " + action + " 11 NONE = " + action);
        }
        for (int activity = 0; activity < 6; activity++) {
            play.say("activity 10 " + activity + " 11 = " + activity);
        }
        for (int open = 0; open < 4; open++) {
            play.say("begin " + (open + 2) + " " + (16 + open) + " = 98");
        }
        for (int had = 1; had <= 4; had++) {
            play.say("condition 59 0 19 0 = " + had);
        }
    }

    private static void fillScenes(Play play) {
        for (int scene = 0; scene < 8; scene++) {
            play.say("scene 1 = " + scene);
            play.say("anchor " + scene + " 0 4 " + (72 + scene) + " = 0\nanchor " + scene + " 1 1 2 = 0");
        }
        play.say("everyTurn 11 = 0");
    }

    /** "FULL (-3); of several the first one here; they change nothing". */
    private static void refuseAll(Play play) {
        play.say("""
                whole counts = 20 20 12 60 8 6 4 8 40 5 0
                kind 0 = FULL
                kind 20 = BAD
                subject 19 = FULL
                subject 20 = BAD
                book 99 = FULL
                book 100 = BAD
                rule 11 2 9 = FULL
                rule 12 2 9 = BAD
                rule 11 3 9 = BAD
                rule 11 2 10 = BAD
                condition 59 0 19 0 = FULL
                condition 59 0 20 0 = BAD
                condition 60 0 19 0 = BAD
                action 11 11 11 11 11 11 = FULL
                action 11 11 11 11 11 12 = BAD
                activity 11 11 11 = FULL
                activity 11 11 12 = BAD
                begin 5 19 = FULL
                begin 6 19 = BAD
                begin 5 20 = BAD
                scene 1 = FULL
                scene 2 = BAD
                phrase 9 19 19 = FULL
                phrase 9 3 3 = NO
                phrase 9 20 3 = BAD
                phrase 10 3 3 = BAD
                whole counts = 20 20 12 60 8 6 4 8 40 5 0
                """);
    }

    private static void useAll(Play play) {
        play.say("""
                under 19 0 = 1
                choose 9 19 19 = 39
                choose 9 0 19 = 9
                whole row 11 = 58 55 59 56 57
                does 59 1 77 0 = 0
                run 11 18 = 99
                run 11 19 = 77
                act 7 19 = 577
                act 7 18 = 0
                count 9 = 10
                order 59 0 0 = 0
                row 11 0 = 59
                middle = 93
                trace 0 0 = 28
                finish = 77
                count 6 = 3
                finish = 99
                abandon = 3
                abandon = 2
                abandon = NO
                set 19 3 1 = 0
                set 18 0 1 = 0
                turn = 2
                whole events = 0 14
                turn = 4
                whole events = 1 15 0 14
                set 19 3 0 = 1
                turn = 3
                whole events = 1 15 0
                happens 7 1 = 2
                happens 0 1 = 3
                count 10 = 3
                """);
    }
}
