/** Promises 24 to 29. */
public final class ScenesTest {
    private static final Check CHECK = new Check();
    private static final int NEVER = 0, CLOCK = 1, BEGINS = 2, ENDS = 3, VALUE = 4;

    public static void main(String[] args) {
        scenes();
        mostScenes();
        anchors();
        rings();
        clockAnchors();
        valueAnchors();
        againOrNot();
        oncePerTurn();
        byNumbersInRounds();
        oneThingPerRound();
        eventsOfThisTurn();
        everyTurn();
        everyTurnErrs();
        CHECK.end();
    }

    private static RuleBooks withScenes(int scenes, int again) {
        RuleBooks x = new RuleBooks();
        x.subject(0);
        for (int i = 0; i < scenes; i++) {
            x.scene(again);
        }
        return x;
    }

    private static void scenes() {
        RuleBooks x = new RuleBooks();
        CHECK.due("scene(-1)", x.scene(-1), -1);
        CHECK.due("scene(2)", x.scene(2), -1);
        CHECK.due("count(7) after refusals", x.count(7), 0);
        CHECK.due("scene(0)", x.scene(0), 0);
        CHECK.due("scene(1)", x.scene(1), 1);
        CHECK.due("happens(1, 0)", x.happens(1, 0), 0);
        CHECK.due("happens(1, 1)", x.happens(1, 1), 0);
        CHECK.due("happens(1, 2)", x.happens(1, 2), -1);
        CHECK.due("happens(1, -1)", x.happens(1, -1), -1);
        CHECK.due("happens(2, 0)", x.happens(2, 0), -1);
        CHECK.due("happens(-1, 0)", x.happens(-1, 0), -1);
        CHECK.due("turn() with no anchors", x.turn(), 0);
        CHECK.due("event(0)", x.event(0), -4);
    }

    private static void mostScenes() {
        RuleBooks x = new RuleBooks();
        for (int i = 0; i < 8; i++) {
            CHECK.due("scene(0)", x.scene(0), i);
        }
        CHECK.due("the ninth", x.scene(0), -3);
        CHECK.due("BAD before FULL", x.scene(2), -1);
        CHECK.due("count(7) when full", x.count(7), 8);
        for (int i = 0; i < 8; i++) {
            x.anchor(i, 0, CLOCK, 0);
            x.anchor(i, 1, CLOCK, 0);
        }
        CHECK.due("all begin and end in one turn", x.turn(), 16);
        CHECK.dueText("events", Check.events(x), "0 2 4 6 8 10 12 14 1 3 5 7 9 11 13 15");
        CHECK.due("event(15)", x.event(15), 15);
        CHECK.due("event(16)", x.event(16), -4);
        CHECK.due("event(-1)", x.event(-1), -4);
    }

    private static void anchors() {
        RuleBooks x = new RuleBooks();
        CHECK.due("anchor without a scene", x.anchor(0, 0, NEVER, 0), -1);
        x.scene(0);
        CHECK.due("value of no subject", x.anchor(0, 0, VALUE, 0), -1);
        x.subject(0);
        x.subject(0);
        CHECK.due("no scene 1", x.anchor(1, 0, NEVER, 0), -1);
        CHECK.due("no scene -1", x.anchor(-1, 0, NEVER, 0), -1);
        CHECK.due("no side 2", x.anchor(0, 2, NEVER, 0), -1);
        CHECK.due("no side -1", x.anchor(0, -1, NEVER, 0), -1);
        CHECK.due("no code 5", x.anchor(0, 0, 5, 0), -1);
        CHECK.due("no code -1", x.anchor(0, 0, -1, 0), -1);
        CHECK.due("never, with any x", x.anchor(0, 0, NEVER, Integer.MIN_VALUE), 0);
        CHECK.due("clock below 0", x.anchor(0, 0, CLOCK, -1), -1);
        CHECK.due("clock 0", x.anchor(0, 0, CLOCK, 0), 0);
        CHECK.due("clock MAX", x.anchor(0, 0, CLOCK, Integer.MAX_VALUE), 0);
        CHECK.due("begins, no scene 1", x.anchor(0, 1, BEGINS, 1), -1);
        CHECK.due("begins, no scene -1", x.anchor(0, 1, BEGINS, -1), -1);
        CHECK.due("ends, no scene 1", x.anchor(0, 0, ENDS, 1), -1);
        CHECK.due("ends, no scene -1", x.anchor(0, 0, ENDS, -1), -1);
        CHECK.due("the end by the beginning", x.anchor(0, 1, BEGINS, 0), 0);
        CHECK.due("value 3 of subject 1", x.anchor(0, 0, VALUE, 7), 0);
        CHECK.due("value 0 of subject 2", x.anchor(0, 0, VALUE, 8), -1);
        CHECK.due("value of x -1", x.anchor(0, 0, VALUE, -1), -1);
        CHECK.due("value of x -4", x.anchor(0, 0, VALUE, -4), -1);
        CHECK.due("value of x MIN", x.anchor(0, 0, VALUE, Integer.MIN_VALUE), -1);
        x.set(1, 3, 1);
        CHECK.due("refused ones change nothing", x.turn(), 2);
    }

    private static void rings() {
        RuleBooks x = withScenes(8, 0);
        CHECK.due("a beginning by itself", x.anchor(3, 0, BEGINS, 3), -2);
        CHECK.due("an end by itself", x.anchor(3, 1, ENDS, 3), -2);
        CHECK.due("an end by its beginning", x.anchor(3, 1, BEGINS, 3), 0);
        CHECK.due("and then the beginning by its end", x.anchor(3, 0, ENDS, 3), -2);
        CHECK.due("in place of that", x.anchor(3, 1, NEVER, 0), 0);
        CHECK.due("a beginning by its end", x.anchor(3, 0, ENDS, 3), 0);
        x.anchor(3, 0, NEVER, 0);
        for (int i = 0; i < 8; i++) {
            CHECK.due("end by beginning", x.anchor(i, 1, BEGINS, i), 0);
            if (i > 0) {
                CHECK.due("beginning by the end of the one before", x.anchor(i, 0, ENDS, i - 1), 0);
            }
        }
        CHECK.due("the longest ring", x.anchor(0, 0, ENDS, 7), -2);
        CHECK.due("BAD before NO", x.anchor(0, 2, ENDS, 7), -1);
        CHECK.due("a ring in the middle", x.anchor(4, 0, BEGINS, 6), -2);
        CHECK.due("no ring", x.anchor(4, 0, BEGINS, 2), 0);
        CHECK.due("the ring is broken now", x.anchor(2, 1, ENDS, 7), 0);
        x.anchor(0, 0, CLOCK, 1);
        CHECK.due("the chain", x.turn(), 16);
        CHECK.dueText("its events", Check.events(x), "0 1 2 3 4 8 9 10 11 12 13 14 15 5 6 7");
    }

    private static void clockAnchors() {
        RuleBooks x = withScenes(2, 0);
        x.anchor(0, 0, CLOCK, 0);
        x.anchor(0, 1, CLOCK, 3);
        x.anchor(1, 0, CLOCK, 2);
        CHECK.due("count(10)", x.count(10), 0);
        CHECK.due("turn 1", x.turn(), 1);
        CHECK.due("count(10)", x.count(10), 1);
        CHECK.dueText("events", Check.events(x), "0");
        CHECK.due("turn 2", x.turn(), 1);
        CHECK.dueText("events", Check.events(x), "2");
        CHECK.due("turn 3", x.turn(), 1);
        CHECK.dueText("events", Check.events(x), "1");
        x.anchor(1, 1, CLOCK, 1);
        CHECK.due("turn 4, late", x.turn(), 1);
        CHECK.dueText("events", Check.events(x), "3");
        x.scene(0);
        x.anchor(2, 0, CLOCK, 1);
        x.anchor(2, 0, NEVER, 0);
        CHECK.due("turn 5", x.turn(), 0);
        CHECK.due("count(10)", x.count(10), 5);
    }

    private static void valueAnchors() {
        RuleBooks x = withScenes(1, 1);
        x.subject(0);
        x.anchor(0, 0, VALUE, 6);
        x.anchor(0, 1, VALUE, 1);
        for (int subject = 0; subject < 2; subject++) {
            for (int slot = 0; slot < 4; slot++) {
                x.set(subject, slot, subject == 1 && slot == 2 ? 0 : 1);
            }
        }
        CHECK.due("value 2 of subject 1 is 0", x.turn(), 0);
        x.set(1, 2, -1);
        CHECK.due("it is -1", x.turn(), 0);
        x.set(0, 1, 0);
        x.set(1, 2, 1);
        CHECK.due("it is 1", x.turn(), 1);
        CHECK.due("happens(0, 0)", x.happens(0, 0), 1);
        x.set(0, 1, Integer.MAX_VALUE);
        x.set(1, 2, Integer.MIN_VALUE);
        CHECK.due("it ends", x.turn(), 1);
        CHECK.dueText("events", Check.events(x), "1");
        CHECK.due("happens(0, 0)", x.happens(0, 0), 0);
    }

    private static void againOrNot() {
        for (int again = 0; again < 2; again++) {
            RuleBooks x = withScenes(1, again);
            x.anchor(0, 0, VALUE, 0);
            x.anchor(0, 1, VALUE, 1);
            x.set(0, 0, 1);
            CHECK.due("it begins", x.turn(), 1);
            CHECK.due("it does not begin while it happens", x.turn(), 0);
            x.set(0, 0, 0);
            x.set(0, 1, 1);
            CHECK.due("it ends", x.turn(), 1);
            x.set(0, 0, 1);
            x.set(0, 1, 0);
            CHECK.due("it begins again, if it may", x.turn(), again);
            CHECK.due("happens(0, 0)", x.happens(0, 0), again);
            CHECK.due("happens(0, 1)", x.happens(0, 1), 1 + again);
        }
    }

    private static void oncePerTurn() {
        RuleBooks x = withScenes(1, 1);
        x.anchor(0, 0, CLOCK, 0);
        x.anchor(0, 1, CLOCK, 0);
        CHECK.due("it begins and ends once", x.turn(), 2);
        CHECK.dueText("events", Check.events(x), "0 1");
        CHECK.due("and so in the next turn", x.turn(), 2);
        CHECK.dueText("events", Check.events(x), "0 1");
        CHECK.due("happens(0, 1)", x.happens(0, 1), 2);
        x.anchor(0, 1, NEVER, 0);
        CHECK.due("it begins alone", x.turn(), 1);
        x.anchor(0, 1, CLOCK, 0);
        CHECK.due("it ends and begins once", x.turn(), 2);
        CHECK.dueText("events", Check.events(x), "1 0");
        CHECK.due("happens(0, 0)", x.happens(0, 0), 1);
        CHECK.due("happens(0, 1)", x.happens(0, 1), 4);
    }

    private static void byNumbersInRounds() {
        RuleBooks x = withScenes(3, 0);
        x.anchor(2, 0, CLOCK, 1);
        x.anchor(1, 0, BEGINS, 2);
        x.anchor(0, 0, BEGINS, 1);
        x.anchor(2, 1, BEGINS, 1);
        CHECK.due("against the numbers, a round each", x.turn(), 4);
        CHECK.dueText("events", Check.events(x), "4 2 5 0");
    }

    private static void oneThingPerRound() {
        RuleBooks x = withScenes(2, 1);
        x.anchor(0, 0, CLOCK, 0);
        x.turn();
        x.anchor(0, 1, CLOCK, 0);
        x.anchor(1, 0, ENDS, 0);
        CHECK.due("0 ends, 1 begins, and 0 begins in the next round", x.turn(), 3);
        CHECK.dueText("events", Check.events(x), "1 2 0");
    }

    private static void eventsOfThisTurn() {
        RuleBooks x = withScenes(2, 0);
        x.anchor(0, 0, CLOCK, 1);
        x.turn();
        x.anchor(1, 0, BEGINS, 0);
        CHECK.due("an event of an earlier turn does not count", x.turn(), 0);
        CHECK.due("event(0)", x.event(0), -4);
        x.anchor(0, 1, CLOCK, 1);
        x.anchor(1, 0, ENDS, 0);
        CHECK.due("one of this turn does", x.turn(), 2);
        CHECK.dueText("events", Check.events(x), "1 2");
    }

    private static void everyTurn() {
        RuleBooks x = new RuleBooks();
        CHECK.due("everyTurn(0) without a book", x.everyTurn(0), -1);
        x.book(0);
        x.does(x.rule(0, 0, 0), 3, 0, 6);
        CHECK.due("everyTurn(0)", x.everyTurn(0), 0);
        CHECK.due("everyTurn(1)", x.everyTurn(1), -1);
        CHECK.due("everyTurn(-1)", x.everyTurn(-1), -1);
        CHECK.due("a turn without subject 0", x.turn(), 0);
        CHECK.due("it has no run", x.count(9), 0);
        x.subject(0);
        x.subject(0);
        CHECK.due("a turn", x.turn(), 0);
        CHECK.due("it has a run", x.count(9), 1);
        CHECK.due("for subject 0", x.value(0, 0), 6);
        CHECK.due("not for subject 1", x.value(1, 0), 0);
        x.scene(1);
        x.anchor(0, 0, VALUE, 0);
        x.does(0, 1, 44, 0);
        x.condition(0, 5, 0, 0);
        CHECK.due("the run comes behind the events; its outcome is not answered", x.turn(), 1);
        CHECK.due("the scene happened then", x.trace(0, 1), 1);
        x.set(0, 0, 0);
        CHECK.due("everyTurn(NONE)", x.everyTurn(RuleBooks.NONE), 0);
        x.run(0, 1);
        x.does(0, 3, 0, 9);
        CHECK.due("a turn without a book", x.turn(), 0);
        CHECK.due("there was no run", x.value(0, 0), 0);
        CHECK.due("the trace stays", x.count(9), 1);
    }

    private static void everyTurnErrs() {
        RuleBooks x = withScenes(1, 0);
        x.book(0);
        x.rule(0, 0, 9);
        x.rule(0, 0, 0);
        x.does(1, 4, 0, 0);
        x.everyTurn(0);
        x.anchor(0, 0, CLOCK, 1);
        CHECK.due("a turn in which a rule errs", x.turn(), -11);
        CHECK.due("erred()", x.erred(), 1);
        CHECK.due("its events stay", x.event(0), 0);
        CHECK.due("the scene happens", x.happens(0, 0), 1);
        CHECK.due("the clock went on", x.count(10), 1);
        x.does(0, 4, 0, 0);
        CHECK.due("rule 0 errs", x.turn(), -10);
        CHECK.due("no events", x.event(0), -4);
    }
}
