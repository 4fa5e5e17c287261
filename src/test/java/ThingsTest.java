/** Promises 1 to 8: a new object, thing, act, undo, where, over, was, event. */
public final class ThingsTest {
    private static final int NONE = RoomTalk.NONE;

    public static void main(String[] args) {
        newObject();
        thing();
        act();
        undo();
        over();
        was();
        event();
        Talk.finish();
    }

    private static void newObject() {
        RoomTalk room = new RoomTalk();
        for (int what = 0; what <= 7; what++) {
            Talk.due("count " + what + " of a new object", room.count(what), 0);
        }
        Talk.due("where", room.where(0), NONE);
        Talk.due("undo", room.undo(), NONE);
        Talk.due("mentioned", room.mentioned(0), NONE);
        Talk.due("taken", room.taken(), NONE);
        Talk.due("done", room.done(), NONE);
        Talk.due("noun", room.noun(0), NONE);
        Talk.due("acts", room.acts(0), NONE);
        Talk.due("breaks 0", room.breaks(0), 0);
        Talk.due("breaks 1", room.breaks(1), NONE);
    }

    private static void thing() {
        RoomTalk room = new RoomTalk();
        int[][] wrong = {{-1, 0, 1}, {3, 0, 1}, {0, -1, 1}, {0, 4, 1}, {0, 0, 0}, {0, 0, 10}};
        for (int[] w : wrong) {
            Talk.due("thing " + w[0] + " " + w[1] + " " + w[2], room.thing(w[0], w[1], w[2]), NONE);
        }
        for (int i = 0; i < 16; i++) {
            Talk.due("thing " + i, room.thing(i % 3, i % 4, i % 9 + 1), i);
            Talk.due("where of a new thing", room.where(i), 16);
        }
        Talk.due("a seventeenth thing", room.thing(0, 0, 1), NONE);
        Talk.due("count", room.count(0), 16);
        Talk.due("where -1", room.where(-1), NONE);
        Talk.due("where 16", room.where(16), NONE);
    }

    private static void act() {
        RoomTalk room = Talk.withFive().room;
        Talk.due("on with an empty hand", room.act(1, 1), NONE);
        Talk.due("down with an empty hand", room.act(2, NONE), NONE);
        Talk.due("in with an empty hand", room.act(3, 3), NONE);
        Talk.due("take a box", room.act(0, 3), NONE);
        Talk.due("take no thing", room.act(0, 5), NONE);
        Talk.due("take thing NONE", room.act(0, NONE), NONE);
        Talk.due("take", room.act(0, 0), 0);
        Talk.due("take a second", room.act(0, 1), NONE);
        Talk.due("on itself", room.act(1, 0), NONE);
        Talk.due("on a pyramid", room.act(1, 2), NONE);
        Talk.due("on a box", room.act(1, 3), NONE);
        Talk.due("in a block", room.act(3, 1), NONE);
        Talk.due("down onto a thing", room.act(2, 0), NONE);
        Talk.due("kind 4", room.act(4, NONE), NONE);
        Talk.due("kind -1", room.act(-1, NONE), NONE);
        Talk.due("on", room.act(1, 1), 1);
        Talk.due("take what bears", room.act(0, 1), NONE);
        Talk.due("take another", room.act(0, 2), 2);
        Talk.due("on what bears", room.act(1, 1), NONE);
        Talk.due("in", room.act(3, 3), 3);
        Talk.due("where", room.where(2), 3);
        Talk.due("take for the box", room.act(0, 4), 4);
        Talk.due("a second in the box", room.act(3, 3), 5);
        Talk.due("take out of the box", room.act(0, 2), 6);
        Talk.due("down", room.act(2, NONE), 7);
        Talk.due("where", room.where(2), 16);
        Talk.due("events", room.count(1), 8);
    }

    private static void undo() {
        RoomTalk room = Talk.withFive().room;
        room.act(0, 0);
        room.act(1, 1);
        room.act(0, 0);
        room.act(3, 3);
        Talk.due("undo of in", room.undo(), 3);
        Talk.due("where", room.where(0), 17);
        Talk.due("take while it is back in the hand", room.act(0, 2), NONE);
        Talk.due("undo of take", room.undo(), 2);
        Talk.due("where", room.where(0), 1);
        Talk.due("over", room.over(1, 0), 0);
        Talk.due("the event is gone", room.event(2, 0), NONE);
        Talk.due("take once more", room.act(0, 0), 2);
        room.undo();
        room.undo();
        Talk.due("undo of the first", room.undo(), 0);
        Talk.due("undo of none", room.undo(), NONE);
        Talk.due("where", room.where(0), 16);
    }

    private static void over() {
        Talk talk = Talk.withFive();
        talk.stack(0, 1);
        talk.stack(2, 0);
        RoomTalk room = talk.room;
        Talk.due("over 1 0", room.over(1, 0), 0);
        Talk.due("over 1 1", room.over(1, 1), 2);
        Talk.due("over 0 1", room.over(0, 1), 2);
        Talk.due("over a pyramid", room.over(2, 0), NONE);
        Talk.due("over a bare block", room.over(4, 0), NONE);
        Talk.due("over a bare block, highest", room.over(4, 1), NONE);
        Talk.due("over, what 2", room.over(1, 2), NONE);
        Talk.due("over, what -1", room.over(1, -1), NONE);
        Talk.due("over no thing", room.over(5, 0), NONE);
        Talk.due("over -1", room.over(-1, 0), NONE);
        room.act(0, 4);
        room.act(3, 3);
        Talk.due("over a box", room.over(3, 0), NONE);
    }

    private static void was() {
        Talk talk = Talk.withFive();
        talk.stack(0, 1);
        talk.room.act(0, 0);
        talk.room.act(3, 3);
        RoomTalk room = talk.room;
        int[] places = {17, 1, 17, 3};
        for (int e = 0; e < 4; e++) {
            Talk.due("was 0 " + e, room.was(0, e), places[e]);
            Talk.due("was 1 " + e, room.was(1, e), 16);
        }
        Talk.due("was behind no event", room.was(0, 4), NONE);
        Talk.due("was behind event -1", room.was(0, -1), NONE);
        Talk.due("was of no thing", room.was(5, 0), NONE);
        Talk.due("was of thing -1", room.was(-1, 0), NONE);
        room.undo();
        Talk.due("was behind an event undone", room.was(0, 3), NONE);
    }

    private static void event() {
        Talk talk = Talk.withFive();
        talk.stack(0, 1);
        talk.room.act(0, 2);
        talk.room.act(2, NONE);
        RoomTalk room = talk.room;
        int[][] parts = {{0, 0, 17, NONE, NONE, 16}, {1, 0, 1, NONE, NONE, 17},
            {0, 2, 17, NONE, NONE, 16}, {2, 2, 16, NONE, NONE, 17}};
        for (int e = 0; e < parts.length; e++) {
            for (int what = 0; what < 6; what++) {
                Talk.due("event " + e + " " + what, room.event(e, what), parts[e][what]);
            }
        }
        Talk.due("event, what 6", room.event(0, 6), NONE);
        Talk.due("event, what -1", room.event(0, -1), NONE);
        Talk.due("event 4", room.event(4, 0), NONE);
        Talk.due("event -1", room.event(-1, 0), NONE);
        room.act(0, 2);
        room.act(3, 3);
        Talk.due("into which", room.event(5, 2), 3);
        Talk.due("kind in", room.event(5, 0), 3);
    }
}
