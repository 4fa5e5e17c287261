/** Part 4 of the terms and promises 16, 17, 19 to 22 and 25: a test for each sentence that names a boundary, which stands above it. */
public final class DoingEdgesTest {
    private static final int NONE = RoomTalk.NONE;
    private static final int TAKE = 0;
    private static final int ON = 1;
    private static final int DOWN = 2;
    private static final int IN = 3;
    private static final String[] EIGHT = {"aa", "bb", "cc", "dd", "ee", "ff", "gg", "hh"};

    public static void main(String[] args) {
        thereAlready();
        handWithAnother();
        handWithIt();
        handWithTheBlock();
        clearingFromTheHighest();
        clearingTheBlock();
        clearingNoBox();
        itselfAmongIt();
        takeEdges();
        dropEdges();
        planEdges();
        planDoesNothing();
        planAsTheRoomIsNow();
        doneNumbers();
        doneAskedBack();
        doneOnce();
        eventsWouldBeTooMany();
        nothingToDoWhenFull();
        sixtyDone();
        eightWords();
        twentyStatements();
        askedBackAheadOfTooMany();
        ownedEdges();
        ownedBothWays();
        ownedAsMeantThen();
        mentionedAheadOfTheActs();
        judgeEdges();
        judgedWithNoneTaken();
        sixtyJudged();
        breaksEdges();
        actsEdges();
        countEdges();
        countFull();
        Talk.finish();
    }

    private static void planned(Talk talk, String text, int... parts) {
        talk.said(text, 1);
        Talk.due("plan of '" + text + "'", talk.room.plan(NONE), parts.length / 3);
        for (int i = 0; i < parts.length; i++) {
            Talk.due("plan " + i + " of '" + text + "'", talk.room.plan(i), parts[i]);
        }
        int number = talk.room.count(2);
        int events = talk.room.count(1);
        Talk.due("done of '" + text + "'", talk.room.done(), number);
        Talk.due("events of '" + text + "'", talk.room.count(1), events + parts.length / 3);
        for (int i = 0; i < parts.length / 3; i++) {
            Talk.due("kind of event " + i + " of '" + text + "'", talk.room.event(events + i, 0), parts[3 * i]);
            Talk.due("cause of event " + i + " of '" + text + "'", talk.room.event(events + i, 3), parts[3 * i + 2]);
            Talk.due("saying of event " + i + " of '" + text + "'", talk.room.event(events + i, 4), number);
        }
    }

    /** "if x is there already (on, in that y; on THE TABLE), nothing". */
    private static void thereAlready() {
        Talk talk = Talk.withFive();
        planned(talk, "put the pyramid down");
        talk.stack(0, 1);
        planned(talk, "put the red block on the green block");
        talk.stack(2, 0);
        planned(talk, "put the red block on the green block");
        planned(talk, "put the green block down");
        talk.room.act(TAKE, 4);
        planned(talk, "put the red block on the green block");
        Talk.due("the hand keeps what it has", talk.room.where(4), 17);
        talk.room.act(IN, 3);
        planned(talk, "put the big blue block in the box");
        Talk.due("what is on it stays", talk.room.where(2), 0);
    }

    /** "THE HAND, if it has another THING .. puts it DOWN". */
    private static void handWithAnother() {
        Talk talk = Talk.withFive();
        talk.room.act(TAKE, 2);
        planned(talk, "put the red block on the green block", DOWN, NONE, 20, TAKE, 0, NONE, ON, 1, NONE);
        talk.room.act(TAKE, 2);
        planned(talk, "put the red block in the box", DOWN, NONE, 20, TAKE, 0, NONE, IN, 3, NONE);
        talk.room.act(TAKE, 2);
        planned(talk, "put the red block down", DOWN, NONE, 20, TAKE, 0, NONE, DOWN, NONE, NONE);
        talk.room.act(TAKE, 2);
        planned(talk, "take the red block", DOWN, NONE, 20, TAKE, 0, NONE);
    }

    /** "or has x and something stands on BLOCK y". */
    private static void handWithIt() {
        Talk talk = Talk.withFive();
        talk.stack(2, 1);
        talk.room.act(TAKE, 0);
        planned(talk, "put the red block on the green block",
                DOWN, NONE, 20, TAKE, 2, 1, DOWN, NONE, 1, TAKE, 0, NONE, ON, 1, NONE);
        talk.room.act(TAKE, 0);
        planned(talk, "put the red block on the green block", ON, 1, NONE);
        talk.room.act(TAKE, 2);
        talk.room.act(IN, 3);
        talk.room.act(TAKE, 0);
        planned(talk, "put the red block in the box", IN, 3, NONE);
        talk.room.act(TAKE, 0);
        planned(talk, "put the red block down", DOWN, NONE, NONE);
    }

    /** "another THING": BLOCK y itself. */
    private static void handWithTheBlock() {
        Talk talk = Talk.withFive();
        talk.room.act(TAKE, 1);
        planned(talk, "put the red block on the green block", DOWN, NONE, 20, TAKE, 0, NONE, ON, 1, NONE);
        Talk.due("where", talk.room.where(1), 16);
    }

    /** "what stands on x, from the highest on, is taken and put DOWN, each". */
    private static void clearingFromTheHighest() {
        Talk talk = Talk.withFive();
        talk.stack(0, 1);
        talk.stack(4, 0);
        talk.stack(2, 4);
        planned(talk, "put the green block in the box", TAKE, 2, 1, DOWN, NONE, 1, TAKE, 4, 1, DOWN, NONE, 1,
                TAKE, 0, 1, DOWN, NONE, 1, TAKE, 1, NONE, IN, 3, NONE);
        Talk.due("where the next is", talk.room.where(0), 16);
    }

    /** "then what stands on BLOCK y (on), likewise". */
    private static void clearingTheBlock() {
        Talk talk = Talk.withFive();
        talk.room.thing(1, 3, 1);
        talk.stack(0, 1);
        talk.stack(2, 0);
        talk.stack(5, 4);
        planned(talk, "put the big blue block on the green block", TAKE, 5, 4, DOWN, NONE, 4,
                TAKE, 2, 1, DOWN, NONE, 1, TAKE, 0, 1, DOWN, NONE, 1, TAKE, 4, NONE, ON, 1, NONE);
    }

    /** "(on)": what is in a BOX stays there, and what stands on things in it. */
    private static void clearingNoBox() {
        Talk talk = Talk.withFive();
        talk.room.act(TAKE, 0);
        talk.room.act(IN, 3);
        talk.stack(2, 0);
        planned(talk, "put the green block in the box", TAKE, 1, NONE, IN, 3, NONE);
        Talk.due("what was in it", talk.room.where(0), 3);
        Talk.due("what was on that", talk.room.where(2), 0);
        planned(talk, "put the red block on the green block", TAKE, 2, 0, DOWN, NONE, 0, TAKE, 0, NONE, ON, 1, NONE);
    }

    /** "(x, too, should it be among it)". */
    private static void itselfAmongIt() {
        Talk talk = Talk.withFive();
        talk.stack(0, 1);
        talk.stack(4, 0);
        planned(talk, "put the big blue block on the green block", TAKE, 4, 1, DOWN, NONE, 1, TAKE, 0, 1, DOWN, NONE, 1,
                TAKE, 4, NONE, ON, 1, NONE);
        talk = Talk.withFive();
        talk.stack(0, 1);
        talk.stack(4, 0);
        talk.stack(2, 4);
        planned(talk, "put the big blue block on the green block", TAKE, 2, 4, DOWN, NONE, 4, TAKE, 4, 1, DOWN, NONE, 1,
                TAKE, 0, 1, DOWN, NONE, 1, TAKE, 4, NONE, ON, 1, NONE);
        Talk.due("where", talk.room.where(4), 1);
    }

    /** "take x: if THE HAND has it, nothing; else the same without a PLACE". */
    private static void takeEdges() {
        Talk talk = Talk.withFive();
        planned(talk, "take the red block", TAKE, 0, NONE);
        planned(talk, "take the red block");
        talk.room.act(ON, 1);
        talk.room.act(TAKE, 2);
        planned(talk, "take the green block", DOWN, NONE, 20, TAKE, 0, 1, DOWN, NONE, 1, TAKE, 1, NONE);
        talk.room.act(IN, 3);
        planned(talk, "take the green block", TAKE, 1, NONE);
    }

    /** "drop: DOWN". */
    private static void dropEdges() {
        Talk talk = Talk.withFive();
        talk.doneAs("drop", -2);
        talk.room.act(TAKE, 0);
        planned(talk, "drop", DOWN, NONE, NONE);
        Talk.due("where", talk.room.where(0), 16);
        talk.doneAs("drop", -2);
    }

    /** "-2: ASKED BACK; NONE: it is not BIDDEN, there is none such, no SAYING at hand". */
    private static void planEdges() {
        Talk talk = Talk.withFive();
        Talk.due("nothing said", talk.room.plan(NONE), NONE);
        Talk.due("nothing said", talk.room.plan(0), NONE);
        talk.said("take the block", 1);
        for (int what : new int[] {NONE, 0, -2, 3, Integer.MIN_VALUE, Integer.MAX_VALUE}) {
            Talk.due("asked back, plan " + what, talk.room.plan(what), -2);
        }
        String[] others = {"is a block on a block", "is it on a block", "many block", "which block on it", "foo means block",
            "foo means block on it", "i own block", "i own no block on it"};
        for (String text : others) {
            talk.said(text, 1);
            Talk.due("how many of '" + text + "'", talk.room.plan(NONE), NONE);
            Talk.due("the first of '" + text + "'", talk.room.plan(0), NONE);
        }
        talk.said("put the pyramid on a block", 1);
        Talk.due("how many", talk.room.plan(NONE), 2);
        Talk.due("the last", talk.room.plan(4), 0);
        for (int what : new int[] {-2, -3, 6, 7, 120, Integer.MIN_VALUE, Integer.MAX_VALUE}) {
            Talk.due("plan " + what, talk.room.plan(what), NONE);
        }
        talk.room.done();
        Talk.due("done", talk.room.plan(NONE), NONE);
        talk.said("put it on the pyramid", 1);
        Talk.due("asked back", talk.room.plan(NONE), -2);
        talk.said("put that on the red block", 1);
        Talk.due("nothing is to be done", talk.room.plan(NONE), 0);
        Talk.due("there is none such", talk.room.plan(0), NONE);
    }

    /** A plan tells the ACTS "that bring the SAYING at hand": none is done by it. */
    private static void planDoesNothing() {
        Talk talk = Talk.withFive();
        talk.stack(0, 1);
        talk.said("put the green block in the box", 1);
        for (int i = 0; i < 3; i++) {
            Talk.due("plan", talk.room.plan(NONE), 4);
        }
        Talk.due("events", talk.room.count(1), 2);
        Talk.due("where", talk.room.where(0), 1);
        Talk.due("sayings", talk.room.count(2), 0);
        Talk.due("at hand", talk.room.count(7), 1);
        String[] others = {"many block", "foo means block", "i own block", "is a block on a block"};
        for (int m = 0; m < others.length; m++) {
            talk.said("put the green block in the box", 1);
            Talk.due("plan", talk.room.plan(NONE), 4);
            talk.doneAs(others[m], m);
            Talk.due("events behind '" + others[m] + "'", talk.room.count(1), 2);
        }
    }

    /** "in this room now": a plan follows what is done ahead of it. */
    private static void planAsTheRoomIsNow() {
        Talk talk = Talk.withFive();
        talk.said("put the green block in the box", 1);
        Talk.due("plan", talk.room.plan(NONE), 2);
        talk.stack(0, 1);
        Talk.due("plan, one being on it", talk.room.plan(NONE), 4);
        talk.room.act(TAKE, 2);
        Talk.due("plan, the hand being full", talk.room.plan(NONE), 5);
        talk.room.undo();
        talk.room.undo();
        talk.room.undo();
        talk.room.act(TAKE, 1);
        Talk.due("plan, it being in the hand", talk.room.plan(NONE), 1);
        talk.room.act(IN, 3);
        Talk.due("plan, it being there", talk.room.plan(NONE), 0);
        Talk.due("done", talk.room.done(), 0);
        Talk.due("acts", talk.room.acts(0), 0);
    }

    /** "The SAYING at hand is DONE: its number (0 on)". */
    private static void doneNumbers() {
        Talk talk = Talk.withFive();
        talk.doneAs("take the pyramid", 0);
        talk.doneAs("take the block", -2);
        talk.doneAs("many block", 1);
        talk.doneAs("foo means block", 2);
        talk.doneAs("i own block", 3);
        talk.doneAs("drop", 4);
        Talk.due("sayings", talk.room.count(2), 5);
        talk.room.undo();
        Talk.due("sayings, one undone", talk.room.count(2), 5);
        talk.doneAs("drop", 5);
    }

    /** "-2: ASKED BACK": it stays at hand, and may be done when it can be meant. */
    private static void doneAskedBack() {
        Talk talk = Talk.withFive();
        talk.said("drop", 1);
        Talk.due("none fits", talk.room.done(), -2);
        Talk.due("at hand", talk.room.count(7), 1);
        talk.room.act(TAKE, 0);
        Talk.due("it fits now", talk.room.done(), 0);
        Talk.due("where", talk.room.where(0), 16);
    }

    /** "(then it is not at hand any more)"; "NONE: no SAYING at hand". */
    private static void doneOnce() {
        Talk talk = Talk.withFive();
        Talk.due("nothing said", talk.room.done(), NONE);
        talk.said("many block", 1);
        Talk.due("done", talk.room.done(), 0);
        Talk.due("at hand", talk.room.count(7), 0);
        Talk.due("done again", talk.room.done(), NONE);
        Talk.due("sayings", talk.room.count(2), 1);
        talk.said("many", -1004);
        Talk.due("behind a fault", talk.room.done(), NONE);
    }

    private static void actTimes(RoomTalk room, int n) {
        for (int e = 0; e < n; e++) {
            room.act(e % 2 == 0 ? TAKE : DOWN, e % 2 == 0 ? 4 : NONE);
        }
    }

    /** "If there would be more than 200 EVENTS .. it is not done"; "-3: .. EVENTS would be". */
    private static void eventsWouldBeTooMany() {
        for (int ahead = 196; ahead <= 200; ahead += 2) {
            Talk talk = Talk.withFive();
            talk.stack(0, 1);
            actTimes(talk.room, ahead - 2);
            talk.said("put the green block in the box", 1);
            Talk.due("plan behind " + ahead, talk.room.plan(NONE), 4);
            Talk.due("done behind " + ahead, talk.room.done(), ahead == 196 ? 0 : -3);
            Talk.due("events behind " + ahead, talk.room.count(1), ahead == 196 ? 200 : ahead);
            Talk.due("where behind " + ahead, talk.room.where(0), ahead == 196 ? 16 : 1);
            Talk.due("at hand behind " + ahead, talk.room.count(7), ahead == 196 ? 0 : 1);
            Talk.due("sayings behind " + ahead, talk.room.count(2), ahead == 196 ? 1 : 0);
            Talk.due("mentioned behind " + ahead, talk.room.mentioned(0), ahead == 196 ? 3 : NONE);
        }
        Talk talk = Talk.withFive();
        actTimes(talk.room, 199);
        talk.said("take the pyramid", 1);
        Talk.due("one too many", talk.room.done(), -3);
        talk.room.undo();
        Talk.due("undo makes room", talk.room.done(), 0);
        talk.said("take the red block", 1);
        Talk.due("one place, two acts", talk.room.done(), -3);
        talk.doneAs("drop", 1);
        Talk.due("events", talk.room.count(1), 200);
    }

    /** A SAYING that needs no ACT is done with 200 EVENTS there. */
    private static void nothingToDoWhenFull() {
        Talk talk = Talk.withFive();
        actTimes(talk.room, 200);
        talk.doneAs("put the pyramid down", 0);
        talk.doneAs("many block", 1);
        talk.doneAs("foo means block", 2);
        talk.doneAs("i own block", 3);
        talk.doneAs("take the pyramid", -3);
        Talk.due("events", talk.room.count(1), 200);
    }

    /** "or more than 60 SAYINGS were done, it is not done"; "-3: .. 60 were done". */
    private static void sixtyDone() {
        Talk talk = Talk.withFive();
        for (int m = 0; m < 60; m++) {
            talk.doneAs("many pyramid", m);
        }
        String[] texts = {"many box", "take the pyramid", "put the pyramid down", "foo means box", "i own box"};
        for (String text : texts) {
            talk.doneAs(text, -3);
            Talk.due("at hand behind '" + text + "'", talk.room.count(7), 1);
        }
        Talk.due("sayings", talk.room.count(2), 60);
        Talk.due("events", talk.room.count(1), 0);
        Talk.due("words told", talk.room.count(3), 0);
        Talk.due("statements", talk.room.count(4), 0);
        Talk.due("owned", talk.room.owned(3), 2);
        Talk.due("mentioned", talk.room.mentioned(0), 2);
        Talk.due("acts of the last", talk.room.acts(59), 0);
        Talk.due("acts of none", talk.room.acts(60), NONE);
        Talk.due("the first mentioned", talk.room.mentioned(59), 2);
        Talk.due("none ahead", talk.room.mentioned(60), NONE);
    }

    /** "W is a NOUN from then on (8 at most)"; "-3: W is one too many". */
    private static void eightWords() {
        Talk talk = Talk.withFive();
        for (int k = 0; k < 8; k++) {
            talk.said("many " + EIGHT[k], -2005);
            talk.doneAs(EIGHT[k] + " means " + (k % 2 == 0 ? "block" : "pyramid"), k);
            talk.said("many " + EIGHT[k], 1);
            Talk.due("many " + EIGHT[k], talk.room.answer(), k % 2 == 0 ? 3 : 1);
        }
        talk.said("ii means box", 1);
        Talk.due("it is taken", talk.room.taken(), 0);
        Talk.due("a ninth", talk.room.done(), -3);
        Talk.due("at hand", talk.room.count(7), 1);
        Talk.due("words told", talk.room.count(3), 8);
        Talk.due("sayings", talk.room.count(2), 8);
        Talk.due("mentioned", talk.room.mentioned(0), 2);
        talk.said("many ii", -2005);
        talk.doneAs("many one", 8);
        Talk.due("one is what it was", talk.room.mentioned(0), 2);
        talk.doneAs("i own aa", 9);
        talk.doneAs("take the hh", 10);
        for (int k = 0; k < 8; k++) {
            Talk.due("noun " + k, talk.room.noun(k), k % 2 == 0 ? 19 : 4);
        }
        Talk.due("noun 8", talk.room.noun(8), NONE);
    }

    /** "statements: 20 at most"; "-3: .. a statement is". */
    private static void twentyStatements() {
        Talk talk = Talk.withFive();
        for (int m = 0; m < 20; m++) {
            talk.doneAs(m % 2 == 0 ? "i own pyramid" : "i own no green thing", m);
            Talk.due("statements", talk.room.count(4), m + 1);
        }
        for (String text : new String[] {"i own box", "i own no box", "i own white box"}) {
            talk.doneAs(text, -3);
            Talk.due("at hand behind '" + text + "'", talk.room.count(7), 1);
        }
        Talk.due("statements", talk.room.count(4), 20);
        int[] owned = {2, 0, 1, 2, 2};
        for (int x = 0; x < 5; x++) {
            Talk.due("owned " + x, talk.room.owned(x), owned[x]);
        }
        talk.doneAs("many box", 20);
        talk.doneAs("foo means box", 21);
    }

    /** "-2: ASKED BACK; -3: ..": what is asked back is asked back first. */
    private static void askedBackAheadOfTooMany() {
        Talk talk = Talk.withFive();
        actTimes(talk.room, 200);
        talk.doneAs("take the block", -2);
        talk.doneAs("take the pyramid", -3);
    }

    /** "How it is with THING x: 0 to 3; NONE: no such one". */
    private static void ownedEdges() {
        Talk talk = new Talk();
        Talk.due("no things", talk.room.owned(0), NONE);
        for (int x = 0; x < 16; x++) {
            talk.room.thing(0, x / 8, x % 2 == 0 ? 4 : 5);
        }
        Talk.due("nobody told", talk.room.owned(15), 2);
        talk.doneAs("i own green thing", 0);
        talk.doneAs("i own no big thing", 1);
        for (int x = 0; x < 16; x++) {
            int want = x < 8 ? x % 2 == 0 ? 2 : 0 : x % 2 == 0 ? 1 : 3;
            Talk.due("owned " + x, talk.room.owned(x), want);
        }
        for (int x : new int[] {-1, 16, 17, 31, 32, 33, Integer.MIN_VALUE, Integer.MAX_VALUE}) {
            Talk.due("owned " + x, talk.room.owned(x), NONE);
        }
    }

    /** "OWNED surely (1), surely not (0), nobody told (2), told both ways (3)". */
    private static void ownedBothWays() {
        Talk talk = Talk.withFive();
        Talk.due("nobody told", talk.room.owned(2), 2);
        talk.said("i own pyramid", 1);
        Talk.due("said, not done", talk.room.owned(2), 2);
        talk.room.done();
        Talk.due("surely", talk.room.owned(2), 1);
        talk.doneAs("i own pyramid", 1);
        Talk.due("told twice", talk.room.owned(2), 1);
        talk.doneAs("i own no red thing", 2);
        Talk.due("both ways", talk.room.owned(2), 3);
        Talk.due("surely not", talk.room.owned(0), 0);
        talk.doneAs("i own no block", 3);
        Talk.due("told twice", talk.room.owned(0), 0);
        talk.doneAs("i own block", 4);
        Talk.due("both ways", talk.room.owned(0), 3);
        Talk.due("the box", talk.room.owned(3), 2);
        talk.doneAs("i own white thing", 5);
        Talk.due("a statement of nothing", talk.room.owned(3), 2);
        Talk.due("counts", talk.room.count(4), 6);
    }

    /** "(.. what N means now)": when it is told. */
    private static void ownedAsMeantThen() {
        Talk talk = Talk.withFive();
        talk.stack(0, 1);
        talk.doneAs("i own block on a block", 0);
        talk.stack(4, 0);
        Talk.due("what was on a block", talk.room.owned(0), 1);
        Talk.due("what came to be on one", talk.room.owned(4), 2);
        talk.room.undo();
        talk.room.undo();
        talk.room.undo();
        talk.room.undo();
        Talk.due("what is on none any more", talk.room.owned(0), 1);
        talk.room.thing(0, 0, 1);
        Talk.due("a thing made later", talk.room.owned(5), 2);
    }

    /** "behind a SAYING DONE: of its NPS .. each that means just one THING is MENTIONED then". */
    private static void mentionedAheadOfTheActs() {
        Talk talk = Talk.withFive();
        talk.stack(0, 1);
        talk.doneAs("take the block on a block", 0);
        Talk.due("it", talk.room.mentioned(0), 0);
        Talk.due("a block is more than one", talk.room.mentioned(1), NONE);
        talk.doneAs("put it on a block", 1);
        Talk.due("it once more", talk.room.mentioned(1), 0);
        talk.doneAs("drop", -2);
        talk.doneAs("take that", 2);
        Talk.due("that", talk.room.mentioned(0), 0);
        talk.doneAs("drop", 3);
        Talk.due("three in all", talk.room.mentioned(2), 0);
        Talk.due("no more", talk.room.mentioned(3), NONE);
    }

    /** "JUDGED READING r of the SAYING at hand: whether it is read so (1), otherwise (0); NONE: no such one, no SAYING at hand". */
    private static void judgeEdges() {
        Talk talk = Talk.withFive();
        Talk.due("nothing said", talk.room.judge(0), NONE);
        talk.room.act(TAKE, 0);
        talk.room.act(IN, 3);
        talk.said("put the pyramid on a block in a box", 2);
        for (int r : new int[] {-1, -2, -3, 2, 264, Integer.MIN_VALUE, Integer.MAX_VALUE}) {
            Talk.due("judge " + r, talk.room.judge(r), NONE);
        }
        Talk.due("none judged", talk.room.count(5), 0);
        Talk.due("read so", talk.room.judge(0), 1);
        Talk.due("read otherwise", talk.room.judge(1), 0);
        Talk.due("two judged", talk.room.count(5), 2);
        Talk.due("at hand still", talk.room.count(7), 1);
        talk.room.done();
        Talk.due("done", talk.room.judge(0), NONE);
        talk.said("take", -1004);
        Talk.due("behind a fault", talk.room.judge(0), NONE);
        Talk.due("two judged still", talk.room.count(5), 2);
    }

    /** "it is read otherwise, if another one, or none, is TAKEN". */
    private static void judgedWithNoneTaken() {
        Talk talk = Talk.withFive();
        talk.said("take the block", 1);
        Talk.due("none fits", talk.room.judge(0), 0);
        talk.said("take it", 1);
        Talk.due("none fits", talk.room.judge(0), 0);
        talk.room.act(TAKE, 0);
        talk.room.act(IN, 3);
        talk.stack(2, 0);
        talk.said("which thing on a block in a box", 2);
        Talk.due("two fit", talk.room.judge(0), 0);
        Talk.due("two fit", talk.room.judge(1), 0);
        talk.said("put the red thing on a block in a box", 2);
        Talk.due("the second is taken", talk.room.judge(1), 1);
        Talk.due("not the first", talk.room.judge(0), 0);
        Talk.due("breaks", talk.room.breaks(0), 5);
        Talk.due("the first of them", talk.room.breaks(1), 0);
    }

    /** "(60 at most)"; "NONE: .. 60 were". */
    private static void sixtyJudged() {
        Talk talk = Talk.withFive();
        talk.said("take the pyramid", 1);
        for (int i = 0; i < 59; i++) {
            Talk.due("judge " + i, talk.room.judge(0), 1);
        }
        Talk.due("none otherwise", talk.room.breaks(1), NONE);
        talk.said("take the block", 1);
        Talk.due("the sixtieth", talk.room.judge(0), 0);
        Talk.due("a 61st", talk.room.judge(0), NONE);
        Talk.due("judged", talk.room.count(5), 60);
        Talk.due("breaks", talk.room.breaks(0), 1);
        Talk.due("the first of these", talk.room.breaks(1), 59);
    }

    /** "what 0 how many were read otherwise, 1 the first of these (from 0 on; NONE: none). NONE for others". */
    private static void breaksEdges() {
        Talk talk = Talk.withFive();
        Talk.due("none judged", talk.room.breaks(0), 0);
        Talk.due("no first", talk.room.breaks(1), NONE);
        talk.said("take the pyramid", 1);
        talk.room.judge(0);
        Talk.due("one judged", talk.room.breaks(0), 0);
        Talk.due("no first", talk.room.breaks(1), NONE);
        talk.said("take the block", 1);
        talk.room.judge(0);
        talk.room.judge(0);
        Talk.due("how many", talk.room.breaks(0), 2);
        Talk.due("the first of these", talk.room.breaks(1), 1);
        for (int what : new int[] {-1, 2, Integer.MIN_VALUE, Integer.MAX_VALUE}) {
            Talk.due("breaks " + what, talk.room.breaks(what), NONE);
        }
    }

    /** "How many EVENTS of SAYING m there are; NONE: it was not done". */
    private static void actsEdges() {
        Talk talk = Talk.withFive();
        Talk.due("none done", talk.room.acts(0), NONE);
        talk.said("put the pyramid on the red block", 1);
        Talk.due("at hand", talk.room.acts(0), NONE);
        talk.room.done();
        Talk.due("done", talk.room.acts(0), 2);
        talk.room.act(TAKE, 2);
        talk.doneAs("take the red block", 1);
        Talk.due("by hand they don't count", talk.room.acts(0), 2);
        Talk.due("the second", talk.room.acts(1), 2);
        for (int m : new int[] {-1, 2, 60, Integer.MIN_VALUE, Integer.MAX_VALUE}) {
            Talk.due("acts " + m, talk.room.acts(m), NONE);
        }
        for (int left = 1; left >= 0; left--) {
            talk.room.undo();
            Talk.due("of the second, undone", talk.room.acts(1), left);
        }
        Talk.due("of the first still", talk.room.acts(0), 2);
        talk.room.undo();
        talk.room.undo();
        Talk.due("of the first, undone", talk.room.acts(0), 1);
    }

    /** "7 whether a SAYING is at hand (1, 0), 8 .. 10 .. (8 to 10: NONE without one). NONE for others". */
    private static void countEdges() {
        Talk talk = new Talk();
        int[] odd = {-1, 11, 12, Integer.MIN_VALUE, Integer.MAX_VALUE};
        for (int what : odd) {
            Talk.due("count " + what + ", nothing said", talk.room.count(what), NONE);
        }
        for (int what = 7; what <= 10; what++) {
            Talk.due("count " + what + ", nothing said", talk.room.count(what), what == 7 ? 0 : NONE);
        }
        String[] texts = {"drop", "take it", "many box", "put it on it", "put it down", "is a box on a box in it",
            "foo means box under it", "i own no box"};
        int[][] sizes = {{0, 0, 1}, {1, 0, 1}, {1, 0, 1}, {2, 1, 1}, {1, 0, 1}, {3, 2, 2}, {2, 1, 1}, {1, 0, 1}};
        for (int i = 0; i < texts.length; i++) {
            talk.said(texts[i], sizes[i][2]);
            Talk.due("at hand of '" + texts[i] + "'", talk.room.count(7), 1);
            for (int k = 0; k < 3; k++) {
                Talk.due("count " + (8 + k) + " of '" + texts[i] + "'", talk.room.count(8 + k), sizes[i][k]);
            }
        }
        for (int what : odd) {
            Talk.due("count " + what + ", one at hand", talk.room.count(what), NONE);
        }
        talk.room.done();
        for (int what = 7; what <= 10; what++) {
            Talk.due("count " + what + ", done", talk.room.count(what), what == 7 ? 0 : NONE);
        }
    }

    /** The counts, as many as there can be. */
    private static void countFull() {
        Talk talk = Talk.withFive();
        for (int x = 5; x < 16; x++) {
            talk.room.thing(2, 3, 1);
        }
        actTimes(talk.room, 200);
        for (int k = 0; k < 8; k++) {
            talk.doneAs(EIGHT[k] + " means box", k);
        }
        talk.said("put a box" + " on a box".repeat(6), 132);
        int[] most = {16, 200, 8, 8, 0, 0, 0, 1, 7, 6, 132};
        for (int what = 0; what <= 10; what++) {
            Talk.due("count " + what, talk.room.count(what), most[what]);
        }
        for (int i = 0; i < 10; i++) {
            talk.room.feed(0, 0, 0, 0, 0);
        }
        Talk.due("the tape", talk.room.count(6), 200);
    }
}
