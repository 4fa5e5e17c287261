/** Promises 16, 17, 19 and 22: plan, done, owned, acts. */
public final class DoingTest {
    private static final int NONE = RoomTalk.NONE;
    private static final int TAKE = 0;
    private static final int ON = 1;
    private static final int DOWN = 2;
    private static final int IN = 3;

    public static void main(String[] args) {
        nothingToDo();
        simple();
        emptyingTheHand();
        clearing();
        sameTower();
        handAndBlock();
        notBidden();
        done();
        owned();
        Talk.finish();
    }

    /** The acts as threes, then done, and what the events say of them. */
    private static void planned(Talk talk, String text, int... parts) {
        talk.said(text, 1);
        int length = parts.length / 3;
        Talk.due("plan of '" + text + "'", talk.room.plan(NONE), length);
        for (int i = 0; i < parts.length; i++) {
            Talk.due("plan " + i + " of '" + text + "'", talk.room.plan(i), parts[i]);
        }
        Talk.due("plan behind the last", talk.room.plan(parts.length), NONE);
        Talk.due("plan -2", talk.room.plan(-2), NONE);
        int events = talk.room.count(1);
        int number = talk.room.count(2);
        Talk.due("done of '" + text + "'", talk.room.done(), number);
        Talk.due("events of '" + text + "'", talk.room.count(1), events + length);
        Talk.due("acts of '" + text + "'", talk.room.acts(number), length);
        for (int i = 0; i < length; i++) {
            Talk.due("event's kind", talk.room.event(events + i, 0), parts[3 * i]);
            Talk.due("event's cause", talk.room.event(events + i, 3), parts[3 * i + 2]);
            Talk.due("event's saying", talk.room.event(events + i, 4), number);
        }
    }

    private static void nothingToDo() {
        Talk talk = Talk.withFive();
        talk.stack(0, 1);
        planned(talk, "put the red block on the green block");
        planned(talk, "put the green block down");
        talk.room.act(0, 2);
        planned(talk, "take the pyramid");
        planned(talk, "put the red block on the green block");
        talk.room.act(3, 3);
        planned(talk, "put the pyramid in the box");
    }

    private static void simple() {
        Talk talk = Talk.withFive();
        planned(talk, "take the pyramid", TAKE, 2, NONE);
        planned(talk, "drop", DOWN, NONE, NONE);
        planned(talk, "put the pyramid on the red block", TAKE, 2, NONE, ON, 0, NONE);
        planned(talk, "put the pyramid in a box", TAKE, 2, NONE, IN, 3, NONE);
        planned(talk, "put the red block in a box", TAKE, 0, NONE, IN, 3, NONE);
        planned(talk, "put the pyramid down", TAKE, 2, NONE, DOWN, NONE, NONE);
        Talk.due("where", talk.room.where(0), 3);
        Talk.due("where", talk.room.where(2), 16);
    }

    private static void emptyingTheHand() {
        Talk talk = Talk.withFive();
        talk.room.act(0, 4);
        planned(talk, "take the pyramid", DOWN, NONE, 20, TAKE, 2, NONE);
        planned(talk, "put it down", DOWN, NONE, NONE);
        talk.room.act(0, 1);
        planned(talk, "put the pyramid on the green block", DOWN, NONE, 20, TAKE, 2, NONE, ON, 1, NONE);
        talk.room.act(0, 0);
        planned(talk, "put the red block in the box", IN, 3, NONE);
    }

    private static void clearing() {
        Talk talk = Talk.withFive();
        talk.room.thing(0, 3, 1);
        talk.stack(0, 1);
        talk.stack(2, 0);
        talk.stack(5, 4);
        planned(talk, "put the green block on the blue block",
                TAKE, 2, 1, DOWN, NONE, 1, TAKE, 0, 1, DOWN, NONE, 1,
                TAKE, 5, 4, DOWN, NONE, 4, TAKE, 1, NONE, ON, 4, NONE);
        planned(talk, "take the blue block", TAKE, 1, 4, DOWN, NONE, 4, TAKE, 4, NONE);
    }

    private static void sameTower() {
        Talk talk = Talk.withFive();
        talk.stack(0, 1);
        talk.stack(4, 0);
        talk.stack(2, 4);
        planned(talk, "put the blue block on the green block",
                TAKE, 2, 4, DOWN, NONE, 4, TAKE, 4, 1, DOWN, NONE, 1, TAKE, 0, 1, DOWN, NONE, 1,
                TAKE, 4, NONE, ON, 1, NONE);
        Talk.due("where", talk.room.where(4), 1);
        Talk.due("where", talk.room.where(0), 16);
    }

    private static void handAndBlock() {
        Talk talk = Talk.withFive();
        talk.stack(2, 1);
        talk.room.act(0, 0);
        planned(talk, "put the red block on the green block",
                DOWN, NONE, 20, TAKE, 2, 1, DOWN, NONE, 1, TAKE, 0, NONE, ON, 1, NONE);
        talk.room.act(0, 0);
        planned(talk, "put the red block on the green block", ON, 1, NONE);
    }

    private static void notBidden() {
        Talk talk = Talk.withFive();
        String[] texts = {"which block", "is a block on a block", "foo means block", "i own block", "which one on it"};
        for (String text : texts) {
            talk.say(text);
            Talk.due("plan of '" + text + "'", talk.room.plan(NONE), NONE);
            Talk.due("plan 0 of '" + text + "'", talk.room.plan(0), NONE);
        }
        talk.say("take the block");
        Talk.due("plan, asked back", talk.room.plan(NONE), -2);
        Talk.due("plan 0, asked back", talk.room.plan(0), -2);
        Talk.due("plan -7, asked back", talk.room.plan(-7), -2);
    }

    private static void done() {
        Talk talk = Talk.withFive();
        talk.doneAs("take the block", -2);
        Talk.due("it stays at hand", talk.room.count(7), 1);
        Talk.due("nothing was done", talk.room.count(2), 0);
        talk.doneAs("take the pyramid", 0);
        Talk.due("not at hand any more", talk.room.count(7), 0);
        Talk.due("done once more", talk.room.done(), NONE);
        talk.doneAs("many box", 1);
        Talk.due("acts of a question", talk.room.acts(1), 0);
        Talk.due("acts of the first", talk.room.acts(0), 1);
        Talk.due("acts of none", talk.room.acts(2), NONE);
        Talk.due("acts -1", talk.room.acts(-1), NONE);
        talk.room.undo();
        Talk.due("acts of the first, undone", talk.room.acts(0), 0);
        Talk.due("sayings done stay", talk.room.count(2), 2);
        talk.say("drop");
        Talk.due("done, none fits", talk.room.done(), -2);
    }

    private static void owned() {
        Talk talk = Talk.withFive();
        Talk.due("nobody told", talk.room.owned(0), 2);
        talk.doneAs("i own red thing", 0);
        talk.doneAs("i own no block", 1);
        int[] want = {3, 0, 1, 2, 0};
        for (int x = 0; x < 5; x++) {
            Talk.due("owned " + x, talk.room.owned(x), want[x]);
        }
        Talk.due("owned 5", talk.room.owned(5), NONE);
        Talk.due("owned -1", talk.room.owned(-1), NONE);
        talk.room.thing(0, 0, 1);
        Talk.due("a block made later was not meant", talk.room.owned(5), 2);
        Talk.due("statements", talk.room.count(4), 2);
        talk.doneAs("i own white thing", 2);
        Talk.due("a statement of nothing", talk.room.count(4), 3);
    }
}
