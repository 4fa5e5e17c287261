/** Part 1 of the terms and promises 1 to 8: a test for each sentence that names a boundary, which stands above it. */
public final class RoomEdgesTest {
    private static final int NONE = RoomTalk.NONE;
    private static final int TAKE = 0;
    private static final int ON = 1;
    private static final int DOWN = 2;
    private static final int IN = 3;
    private static final int TABLE = 16;
    private static final int HAND = 17;

    public static void main(String[] args) {
        newObject();
        sixteenThings();
        sorts();
        colours();
        sizes();
        refusedThings();
        atFirst();
        blockBearsOne();
        boxHoldsAll();
        handHoldsOne();
        pyramidsBearNothing();
        boxIsNeverMoved();
        take();
        on();
        down();
        in();
        kinds();
        byHand();
        twoHundredEvents();
        undoOfNone();
        undoOfEachKind();
        undoneIsGone();
        where();
        overNothing();
        overOthers();
        overTheHighest();
        wasBehindTheEdges();
        wasAheadOfIt();
        eventParts();
        eventOfOthers();
        Talk.finish();
    }

    private static RoomTalk of(int... sorts) {
        RoomTalk room = new RoomTalk();
        for (int sort : sorts) {
            room.thing(sort, 0, 1);
        }
        return room;
    }

    /** "No THINGS; nothing said." */
    private static void newObject() {
        RoomTalk room = new RoomTalk();
        Talk.due("things of a new object", room.count(0), 0);
        Talk.due("thing 0 of a new object", room.where(0), NONE);
        Talk.due("owned of a new object", room.owned(0), NONE);
        Talk.due("events of a new object", room.count(1), 0);
        Talk.due("sayings of a new object", room.count(2), 0);
        Talk.due("a saying at hand of a new object", room.count(7), 0);
        for (int what = 8; what <= 10; what++) {
            Talk.due("count " + what + " of a new object", room.count(what), NONE);
        }
        Talk.due("mentioned in a new object", room.mentioned(0), NONE);
        Talk.due("done in a new object", room.done(), NONE);
        Talk.due("say in a new object", room.say(1), NONE);
        RoomTalk other = of(0);
        other.act(TAKE, 0);
        Talk.due("what another object holds", room.count(0), 0);
    }

    /** "THINGS 0 to 15"; "its number; NONE: .. 16 are there". */
    private static void sixteenThings() {
        RoomTalk room = new RoomTalk();
        for (int x = 0; x < 16; x++) {
            Talk.due("thing number " + x, room.thing(0, 0, 1), x);
        }
        Talk.due("a seventeenth", room.thing(0, 0, 1), NONE);
        Talk.due("sixteen stay", room.count(0), 16);
        Talk.due("where the last is", room.where(15), TABLE);
        Talk.due("the last can be moved", room.act(TAKE, 15), 0);
        Talk.due("onto the first", room.act(ON, 0), 1);
        Talk.due("where it is then", room.where(15), 0);
        Talk.due("over the first", room.over(0, 0), 15);
        Talk.due("where a seventeenth is", room.where(16), NONE);
        Talk.due("over a seventeenth", room.over(16, 0), NONE);
        Talk.due("the highest over a seventeenth", room.over(16, 1), NONE);
        Talk.due("where a seventeenth was", room.was(16, 0), NONE);
        Talk.due("how it is with a seventeenth", room.owned(16), NONE);
        Talk.due("take a seventeenth", room.act(TAKE, 16), NONE);
        room.act(TAKE, 14);
        Talk.due("on a seventeenth", room.act(ON, 16), NONE);
        Talk.due("in a seventeenth", room.act(IN, 16), NONE);
    }

    /** "a SORT (0 BLOCK, 1 PYRAMID, 2 BOX)"; "NONE: no such ones". */
    private static void sorts() {
        RoomTalk room = new RoomTalk();
        Talk.due("sort -1", room.thing(-1, 0, 1), NONE);
        Talk.due("sort 3", room.thing(3, 0, 1), NONE);
        Talk.due("sort MIN", room.thing(Integer.MIN_VALUE, 0, 1), NONE);
        Talk.due("sort MAX", room.thing(Integer.MAX_VALUE, 0, 1), NONE);
        Talk.due("sort 0", room.thing(0, 0, 1), 0);
        Talk.due("sort 1", room.thing(1, 0, 1), 1);
        Talk.due("sort 2", room.thing(2, 0, 1), 2);
    }

    /** "a COLOUR (0 red, 1 green, 2 blue, 3 white)". */
    private static void colours() {
        RoomTalk room = new RoomTalk();
        Talk.due("colour -1", room.thing(0, -1, 1), NONE);
        Talk.due("colour 4", room.thing(0, 4, 1), NONE);
        Talk.due("colour MIN", room.thing(0, Integer.MIN_VALUE, 1), NONE);
        Talk.due("colour MAX", room.thing(0, Integer.MAX_VALUE, 1), NONE);
        for (int colour = 0; colour < 4; colour++) {
            Talk.due("colour " + colour, room.thing(0, colour, 1), colour);
        }
    }

    /** "a SIZE (1 to 9)". */
    private static void sizes() {
        RoomTalk room = new RoomTalk();
        Talk.due("size 0", room.thing(0, 0, 0), NONE);
        Talk.due("size 10", room.thing(0, 0, 10), NONE);
        Talk.due("size -1", room.thing(0, 0, -1), NONE);
        Talk.due("size MIN", room.thing(0, 0, Integer.MIN_VALUE), NONE);
        Talk.due("size MAX", room.thing(0, 0, Integer.MAX_VALUE), NONE);
        Talk.due("size 1", room.thing(0, 0, 1), 0);
        Talk.due("size 9", room.thing(0, 0, 9), 1);
    }

    /** "A call that is refused (NONE, false) changes nothing": no number is lost by one. */
    private static void refusedThings() {
        RoomTalk room = new RoomTalk();
        room.thing(3, 0, 1);
        Talk.due("count behind one refused", room.count(0), 0);
        Talk.due("the next number", room.thing(0, 0, 1), 0);
        room.thing(0, 0, 10);
        Talk.due("the number behind it", room.thing(0, 0, 1), 1);
    }

    /** "Each is on THE TABLE (at first)". */
    private static void atFirst() {
        RoomTalk room = of(0, 1, 2);
        for (int x = 0; x < 3; x++) {
            Talk.due("where at first", room.where(x), TABLE);
        }
        room.act(TAKE, 0);
        room.thing(0, 0, 1);
        Talk.due("where at first, the hand being full", room.where(3), TABLE);
    }

    /** "on a BLOCK that bears nothing else". */
    private static void blockBearsOne() {
        RoomTalk room = of(0, 0, 1);
        room.act(TAKE, 1);
        Talk.due("the first on it", room.act(ON, 0), 1);
        room.act(TAKE, 2);
        Talk.due("a second on it", room.act(ON, 0), NONE);
        Talk.due("the second stays in the hand", room.where(2), HAND);
        Talk.due("on what is on it", room.act(ON, 1), 3);
    }

    /** "in a BOX (as many as one likes)". */
    private static void boxHoldsAll() {
        RoomTalk room = new RoomTalk();
        room.thing(2, 0, 1);
        for (int x = 1; x < 16; x++) {
            room.thing(x % 2, 0, 1);
        }
        for (int x = 1; x < 16; x++) {
            room.act(TAKE, x);
            Talk.due("thing " + x + " into the box", room.act(IN, 0), 2 * x - 1);
        }
        for (int x = 1; x < 16; x++) {
            Talk.due("where " + x, room.where(x), 0);
        }
        Talk.due("the first can be taken out", room.act(TAKE, 1), 30);
    }

    /** "in THE HAND (one at most)". */
    private static void handHoldsOne() {
        RoomTalk room = of(0, 0);
        room.act(TAKE, 0);
        Talk.due("a second in the hand", room.act(TAKE, 1), NONE);
        Talk.due("the same once more", room.act(TAKE, 0), NONE);
        Talk.due("events", room.count(1), 1);
        Talk.due("where the second is", room.where(1), TABLE);
    }

    /** "PYRAMIDS bear nothing". */
    private static void pyramidsBearNothing() {
        RoomTalk room = of(1, 1, 0);
        room.act(TAKE, 1);
        Talk.due("a pyramid on a pyramid", room.act(ON, 0), NONE);
        Talk.due("a pyramid in a pyramid", room.act(IN, 0), NONE);
        room.act(DOWN, NONE);
        room.act(TAKE, 2);
        Talk.due("a block on a pyramid", room.act(ON, 0), NONE);
    }

    /** "a BOX is never moved". */
    private static void boxIsNeverMoved() {
        Talk talk = new Talk();
        talk.room.thing(2, 0, 1);
        talk.room.thing(0, 1, 1);
        Talk.due("an empty box", talk.room.act(TAKE, 0), NONE);
        talk.room.act(TAKE, 1);
        talk.room.act(IN, 0);
        Talk.due("a full box", talk.room.act(TAKE, 0), NONE);
        talk.doneAs("take the box", -2);
        talk.doneAs("put the box on the block", -2);
        talk.doneAs("put the box down", -2);
        Talk.due("where it is", talk.room.where(0), TABLE);
    }

    /** "0 TAKE thing x: THE HAND is empty, x is no BOX and bears nothing". */
    private static void take() {
        RoomTalk room = of(0, 0, 2);
        for (int x : new int[] {NONE, 3, 15, 16, 17, 31, 32, Integer.MIN_VALUE, Integer.MAX_VALUE}) {
            Talk.due("take thing " + x, room.act(TAKE, x), NONE);
        }
        Talk.due("take a box", room.act(TAKE, 2), NONE);
        Talk.due("take", room.act(TAKE, 0), 0);
        Talk.due("where", room.where(0), HAND);
        Talk.due("take with a full hand", room.act(TAKE, 1), NONE);
        room.act(ON, 1);
        Talk.due("take what bears", room.act(TAKE, 1), NONE);
        Talk.due("take what stands on it", room.act(TAKE, 0), 2);
        room.act(DOWN, NONE);
        Talk.due("take what bears nothing any more", room.act(TAKE, 1), 4);
    }

    /** "1 ON BLOCK y, that bears nothing: what is in THE HAND is put there". */
    private static void on() {
        RoomTalk room = of(0, 0, 2, 1);
        Talk.due("on with an empty hand", room.act(ON, 1), NONE);
        room.act(TAKE, 0);
        for (int y : new int[] {NONE, 4, 15, 16, 17, Integer.MIN_VALUE, Integer.MAX_VALUE}) {
            Talk.due("on thing " + y, room.act(ON, y), NONE);
        }
        Talk.due("on itself", room.act(ON, 0), NONE);
        Talk.due("on a box", room.act(ON, 2), NONE);
        Talk.due("on a pyramid", room.act(ON, 3), NONE);
        Talk.due("still in the hand", room.where(0), HAND);
        Talk.due("on a block", room.act(ON, 1), 1);
        Talk.due("where", room.where(0), 1);
    }

    /** "2 DOWN: on THE TABLE"; "x of DOWN: NONE". */
    private static void down() {
        RoomTalk room = of(0, 0);
        Talk.due("down with an empty hand", room.act(DOWN, NONE), NONE);
        room.act(TAKE, 0);
        for (int x : new int[] {0, 1, 2, 16, 17, -2, Integer.MIN_VALUE, Integer.MAX_VALUE}) {
            Talk.due("down with x " + x, room.act(DOWN, x), NONE);
        }
        Talk.due("still in the hand", room.where(0), HAND);
        Talk.due("down", room.act(DOWN, NONE), 1);
        Talk.due("where", room.where(0), TABLE);
        Talk.due("down once more", room.act(DOWN, NONE), NONE);
    }

    /** "3 IN BOX y". */
    private static void in() {
        RoomTalk room = of(0, 0, 2, 1);
        Talk.due("in with an empty hand", room.act(IN, 2), NONE);
        room.act(TAKE, 0);
        for (int y : new int[] {NONE, 4, 15, 16, 17, Integer.MIN_VALUE, Integer.MAX_VALUE}) {
            Talk.due("in thing " + y, room.act(IN, y), NONE);
        }
        Talk.due("in a block", room.act(IN, 1), NONE);
        Talk.due("in itself", room.act(IN, 0), NONE);
        Talk.due("in a pyramid", room.act(IN, 3), NONE);
        Talk.due("still in the hand", room.where(0), HAND);
        Talk.due("in a box", room.act(IN, 2), 1);
        Talk.due("where", room.where(0), 2);
    }

    /** "ACT of a KIND (0 to 3)". */
    private static void kinds() {
        RoomTalk room = of(0, 0, 2);
        for (int kind : new int[] {-1, 4, 5, Integer.MIN_VALUE, Integer.MAX_VALUE}) {
            for (int x = -1; x < 4; x++) {
                Talk.due("kind " + kind + ", empty hand", room.act(kind, x), NONE);
            }
        }
        room.act(TAKE, 0);
        for (int kind : new int[] {-1, 4, 5, Integer.MIN_VALUE, Integer.MAX_VALUE}) {
            for (int x = -1; x < 4; x++) {
                Talk.due("kind " + kind + ", full hand", room.act(kind, x), NONE);
            }
        }
        Talk.due("events", room.count(1), 1);
    }

    /** "an EVENT, FOR nothing (NONE), of SAYING NONE: its number". */
    private static void byHand() {
        Talk talk = Talk.withFive();
        talk.doneAs("many block", 0);
        Talk.due("its number", talk.room.act(TAKE, 0), 0);
        Talk.due("the next number", talk.room.act(IN, 3), 1);
        for (int e = 0; e < 2; e++) {
            Talk.due("for nothing", talk.room.event(e, 3), NONE);
            Talk.due("of no saying", talk.room.event(e, 4), NONE);
        }
        Talk.due("no acts of the saying done", talk.room.acts(0), 0);
    }

    /** "EVENTS (200 at most)"; "NONE: .. 200 are there". */
    private static void twoHundredEvents() {
        RoomTalk room = of(0);
        for (int e = 0; e < 200; e++) {
            Talk.due("event " + e, e % 2 == 0 ? room.act(TAKE, 0) : room.act(DOWN, NONE), e);
        }
        Talk.due("a 201st", room.act(TAKE, 0), NONE);
        Talk.due("events", room.count(1), 200);
        Talk.due("where", room.where(0), TABLE);
        Talk.due("the last one", room.event(199, 0), DOWN);
        Talk.due("none behind it", room.event(200, 0), NONE);
        Talk.due("was behind the last one", room.was(0, 199), TABLE);
        Talk.due("was behind none", room.was(0, 200), NONE);
        Talk.due("undo makes room", room.undo(), 199);
        Talk.due("for one more", room.act(DOWN, NONE), 199);
        Talk.due("and for no other", room.act(TAKE, 0), NONE);
    }

    /** "UNDONE: how many EVENTS there are then; NONE: there is none". */
    private static void undoOfNone() {
        RoomTalk room = of(0);
        Talk.due("undo of none", room.undo(), NONE);
        room.act(TAKE, 0);
        Talk.due("undo of the only one", room.undo(), 0);
        Talk.due("undo once more", room.undo(), NONE);
        Talk.due("events", room.count(1), 0);
        Talk.due("where", room.where(0), TABLE);
    }

    /** "UNDONE is the last one: its thing is where it was". */
    private static void undoOfEachKind() {
        RoomTalk room = of(0, 0, 2);
        room.act(TAKE, 0);
        room.act(IN, 2);
        room.act(TAKE, 0);
        room.act(ON, 1);
        room.act(TAKE, 0);
        room.act(DOWN, NONE);
        int[] places = {HAND, 1, HAND, 2, HAND, TABLE};
        for (int i = 0; i < 6; i++) {
            Talk.due("undo " + i, room.undo(), 5 - i);
            Talk.due("where behind undo " + i, room.where(0), places[i]);
            boolean isFree = room.where(0) != HAND;
            Talk.due("the hand behind undo " + i, room.act(TAKE, isFree ? 0 : 1) == NONE ? 0 : 1, isFree ? 1 : 0);
            if (isFree) {
                room.undo();
            }
        }
    }

    /** "the EVENT is gone". */
    private static void undoneIsGone() {
        Talk talk = Talk.withFive();
        talk.room.act(TAKE, 2);
        talk.doneAs("drop", 0);
        Talk.due("acts of the saying", talk.room.acts(0), 1);
        talk.room.undo();
        Talk.due("the event", talk.room.event(1, 0), NONE);
        Talk.due("was behind it", talk.room.was(2, 1), NONE);
        Talk.due("acts of the saying then", talk.room.acts(0), 0);
        Talk.due("events", talk.room.count(1), 1);
        Talk.due("its number is given again", talk.room.act(IN, 3), 1);
        Talk.due("to what was done then", talk.room.event(1, 0), IN);
        Talk.due("by hand", talk.room.event(1, 4), NONE);
    }

    /** "Where THING x is: 0 to 15, 16, 17 as above; NONE: no such one". */
    private static void where() {
        RoomTalk room = of(0, 0, 2);
        for (int x : new int[] {-1, 3, 16, 17, Integer.MIN_VALUE, Integer.MAX_VALUE}) {
            Talk.due("where " + x, room.where(x), NONE);
        }
        Talk.due("on the table", room.where(0), TABLE);
        room.act(TAKE, 0);
        Talk.due("in the hand", room.where(0), HAND);
        room.act(ON, 1);
        Talk.due("on a thing", room.where(0), 1);
        room.act(TAKE, 0);
        room.act(IN, 2);
        Talk.due("in a thing", room.where(0), 2);
    }

    /** "What is on BLOCK x .. NONE: nothing". */
    private static void overNothing() {
        RoomTalk room = of(0, 0, 2, 1);
        for (int what = 0; what < 2; what++) {
            for (int x = 0; x < 4; x++) {
                Talk.due("over " + x + " " + what, room.over(x, what), NONE);
            }
        }
        room.act(TAKE, 0);
        Talk.due("over what is in the hand", room.over(0, 0), NONE);
        room.act(IN, 2);
        Talk.due("over a box with something in it", room.over(2, 0), NONE);
        Talk.due("the highest over such a box", room.over(2, 1), NONE);
    }

    /** "NONE: .. no such ones". */
    private static void overOthers() {
        RoomTalk room = of(0, 0);
        room.act(TAKE, 1);
        room.act(ON, 0);
        for (int what : new int[] {-1, 2, Integer.MIN_VALUE, Integer.MAX_VALUE}) {
            Talk.due("over, what " + what, room.over(0, what), NONE);
        }
        for (int x : new int[] {-1, 2, 16, 17, Integer.MIN_VALUE, Integer.MAX_VALUE}) {
            Talk.due("over " + x, room.over(x, 0), NONE);
            Talk.due("the highest over " + x, room.over(x, 1), NONE);
        }
    }

    /** "or (what 1) the highest over it". */
    private static void overTheHighest() {
        RoomTalk room = new RoomTalk();
        for (int x = 0; x < 16; x++) {
            room.thing(x == 15 ? 1 : 0, 0, 1);
        }
        for (int x = 1; x < 16; x++) {
            room.act(TAKE, x);
            room.act(ON, x - 1);
            Talk.due("the highest of " + (x + 1), room.over(0, 1), x);
            Talk.due("what is on the lowest", room.over(0, 0), 1);
        }
        Talk.due("over the last but one", room.over(14, 1), 15);
        Talk.due("over the highest", room.over(15, 1), NONE);
    }

    /** "Where THING x was behind EVENT e; NONE: no such ones". */
    private static void wasBehindTheEdges() {
        RoomTalk room = of(0, 0);
        Talk.due("was without events", room.was(0, 0), NONE);
        room.act(TAKE, 0);
        for (int e : new int[] {-1, 1, 200, Integer.MIN_VALUE, Integer.MAX_VALUE}) {
            Talk.due("was behind event " + e, room.was(0, e), NONE);
        }
        for (int x : new int[] {-1, 2, 16, Integer.MIN_VALUE, Integer.MAX_VALUE}) {
            Talk.due("was of thing " + x, room.was(x, 0), NONE);
        }
        Talk.due("was behind the first", room.was(0, 0), HAND);
        Talk.due("was of what was not moved", room.was(1, 0), TABLE);
    }

    /** "Where THING x was behind EVENT e", whatever came later. */
    private static void wasAheadOfIt() {
        RoomTalk room = of(0, 0, 2);
        room.act(TAKE, 0);
        room.act(ON, 1);
        room.act(TAKE, 0);
        room.act(IN, 2);
        room.act(TAKE, 1);
        int[] first = {HAND, 1, HAND, 2, 2};
        int[] second = {TABLE, TABLE, TABLE, TABLE, HAND};
        for (int e = 0; e < 5; e++) {
            Talk.due("was 0 behind " + e, room.was(0, e), first[e]);
            Talk.due("was 1 behind " + e, room.was(1, e), second[e]);
            Talk.due("was 2 behind " + e, room.was(2, e), TABLE);
        }
        room.thing(0, 0, 1);
        Talk.due("was of a thing made later", room.was(3, 0), TABLE);
    }

    /** "what 0 the KIND, 1 the THING, 2 onto or into which, 3 FOR what, 4 the SAYING, 5 where its THING was". */
    private static void eventParts() {
        Talk talk = Talk.withFive();
        talk.room.act(TAKE, 0);
        talk.room.act(ON, 1);
        talk.room.act(TAKE, 4);
        talk.doneAs("put the green block in the box", 0);
        int[][] events = {{TAKE, 0, HAND, NONE, NONE, TABLE}, {ON, 0, 1, NONE, NONE, HAND},
            {TAKE, 4, HAND, NONE, NONE, TABLE}, {DOWN, 4, TABLE, 20, 0, HAND}, {TAKE, 0, HAND, 1, 0, 1},
            {DOWN, 0, TABLE, 1, 0, HAND}, {TAKE, 1, HAND, NONE, 0, TABLE}, {IN, 1, 3, NONE, 0, HAND}};
        Talk.due("events", talk.room.count(1), events.length);
        for (int e = 0; e < events.length; e++) {
            for (int what = 0; what < 6; what++) {
                Talk.due("event " + e + ", what " + what, talk.room.event(e, what), events[e][what]);
            }
        }
    }

    /** "NONE for others". */
    private static void eventOfOthers() {
        RoomTalk room = of(0);
        Talk.due("event 0 of none", room.event(0, 0), NONE);
        room.act(TAKE, 0);
        for (int what : new int[] {-1, 6, 7, Integer.MIN_VALUE, Integer.MAX_VALUE}) {
            Talk.due("event, what " + what, room.event(0, what), NONE);
        }
        for (int e : new int[] {-1, 1, 200, Integer.MIN_VALUE, Integer.MAX_VALUE, 0x2aaaaaab}) {
            for (int what = 0; what < 6; what++) {
                Talk.due("event " + e + ", what " + what, room.event(e, what), NONE);
            }
        }
    }
}
