/** Promises 12 to 15, 18 and 23: means, trouble, taken, answer, mentioned, noun. */
public final class MeaningTest {
    private static final int NONE = RoomTalk.NONE;

    public static void main(String[] args) {
        nouns();
        links();
        one();
        itAndThat();
        told();
        troubleOfNps();
        troubleOfDoing();
        taken();
        answers();
        mentioned();
        noneAtHand();
        Talk.finish();
    }

    private static void meant(Talk talk, String text, int... sets) {
        talk.say(text);
        for (int k = 0; k < sets.length; k++) {
            Talk.due("means 0 " + k + " of '" + text + "'", talk.room.means(0, k), sets[k]);
        }
        Talk.due("means behind the last NP of '" + text + "'", talk.room.means(0, sets.length), NONE);
    }

    private static void troubled(Talk talk, String text, int which, int np) {
        talk.say(text);
        Talk.due("trouble of '" + text + "'", talk.room.trouble(0, 0), which);
        Talk.due("trouble's NP of '" + text + "'", talk.room.trouble(0, 1), np);
        Talk.due("taken of '" + text + "'", talk.room.taken(), which == 0 ? 0 : -3);
    }

    private static void nouns() {
        Talk talk = Talk.withFive();
        meant(talk, "which thing", 31);
        meant(talk, "which block", 19);
        meant(talk, "which pyramid", 4);
        meant(talk, "which box", 8);
        meant(talk, "which one", 0);
        meant(talk, "which red thing", 5);
        meant(talk, "which green thing", 2);
        meant(talk, "which blue thing", 24);
        meant(talk, "which white thing", 0);
        meant(talk, "which big thing", 26);
        meant(talk, "which small thing", 5);
        meant(talk, "which big blue block", 16);
        meant(talk, "which red green thing", 0);
        talk.room.thing(0, 3, 4);
        Talk.due("a thing made later is looked at", talk.room.means(0, 0), 0);
        meant(talk, "many small thing", 37);
        meant(talk, "drop");
    }

    private static void links() {
        Talk talk = Talk.withFive();
        talk.stack(0, 1);
        talk.stack(2, 0);
        talk.room.act(0, 4);
        talk.room.act(3, 3);
        meant(talk, "which thing on a block", 5, 19);
        meant(talk, "which thing on a red block", 4, 1);
        meant(talk, "which thing in a box", 16, 8);
        meant(talk, "which thing on a box", 0, 8);
        meant(talk, "which thing in a block", 0, 19);
        meant(talk, "which thing under a thing", 3, 31);
        meant(talk, "which thing under a pyramid", 1, 4);
        meant(talk, "which box under a block", 0, 19);
        talk.say("which block under a block on a block");
        Talk.due("both belong to the first", talk.room.means(0, 0), 0);
        Talk.due("the second belongs to the second", talk.room.means(1, 0), 2);
        Talk.due("the second means less then", talk.room.means(1, 1), 1);
        Talk.due("means of reading 2", talk.room.means(2, 0), NONE);
        Talk.due("means of reading -1", talk.room.means(-1, 0), NONE);
        Talk.due("means of NP -1", talk.room.means(0, -1), NONE);
    }

    private static void one() {
        Talk talk = Talk.withFive();
        talk.doneAs("which block", 0);
        meant(talk, "which big one", 18);
        talk.doneAs("which red one", 1);
        meant(talk, "which one", 19);
        talk.doneAs("is a box on a pyramid", 2);
        meant(talk, "which one", 4);
        talk.doneAs("is a box on a red one", 3);
        meant(talk, "which one", 8);
        talk.doneAs("take it", 4);
        meant(talk, "which one", 8);
        talk.say("which pyramid");
        meant(talk, "which one", 8);
    }

    private static void itAndThat() {
        Talk talk = Talk.withFive();
        troubled(talk, "take it", 4, 0);
        troubled(talk, "take that", 4, 0);
        talk.room.act(0, 2);
        meant(talk, "take that", 4);
        talk.room.act(1, 1);
        talk.room.act(0, 4);
        meant(talk, "take that", 16);
        talk.room.undo();
        Talk.due("that is what the last event left moved", talk.room.means(0, 0), 4);
        talk.doneAs("which white thing", 0);
        troubled(talk, "take it", 4, 0);
        talk.doneAs("which box", 1);
        meant(talk, "is it on that", 8, 4);
    }

    private static void told() {
        Talk talk = Talk.withFive();
        Talk.due("noun 0 ahead", talk.room.noun(0), NONE);
        talk.doneAs("foo means one", 0);
        Talk.due("one that was nothing", talk.room.noun(0), 0);
        talk.doneAs("which block", 1);
        Talk.due("one stays what it was", talk.room.noun(0), 0);
        talk.doneAs("bar means big one on a one", 2);
        Talk.due("none is on one", talk.room.noun(1), 0);
        talk.stack(1, 0);
        Talk.due("now one is", talk.room.noun(1), 2);
        talk.doneAs("which pyramid", 3);
        Talk.due("one is a block still", talk.room.noun(1), 2);
        meant(talk, "which green bar", 2);
        meant(talk, "which red bar", 0);
        talk.doneAs("baz means block under a bar", 4);
        Talk.due("a word by a word", talk.room.noun(2), 1);
        talk.doneAs("which baz", 5);
        talk.doneAs("qux means one", 6);
        Talk.due("one that was a word told", talk.room.noun(3), 1);
        talk.room.undo();
        Talk.due("in the room now", talk.room.noun(3), 0);
        Talk.due("noun 4", talk.room.noun(4), NONE);
        Talk.due("noun -1", talk.room.noun(-1), NONE);
        firstReading();
    }

    private static void firstReading() {
        Talk talk = Talk.withFive();
        talk.stack(0, 1);
        talk.stack(2, 0);
        talk.said("tower means thing on a block on a block", 2);
        Talk.due("by the second it would mean", talk.room.means(1, 0), 4);
        Talk.due("done", talk.room.done(), 0);
        Talk.due("by the first reading", talk.room.noun(0), 5);
    }

    private static void troubleOfNps() {
        Talk talk = Talk.withFive();
        troubled(talk, "take the white thing", 1, 0);
        troubled(talk, "take the block", 2, 0);
        troubled(talk, "take a white thing", 3, 0);
        troubled(talk, "put it on the block", 4, 0);
        troubled(talk, "put a pyramid on the block", 2, 1);
        troubled(talk, "put a pyramid in a pyramid on a white box", 3, 1);
        troubled(talk, "is the pyramid on a white box", 3, 1);
        troubled(talk, "which white thing", 0, NONE);
        troubled(talk, "which thing on the block", 2, 1);
        troubled(talk, "i own thing on it", 4, 1);
        troubled(talk, "foo means thing on the white one", 1, 1);
        troubled(talk, "take the pyramid", 0, NONE);
        Talk.due("trouble, what 2", talk.room.trouble(0, 2), NONE);
        Talk.due("trouble, what -1", talk.room.trouble(0, -1), NONE);
        Talk.due("trouble of reading 1", talk.room.trouble(1, 0), NONE);
        Talk.due("trouble of reading -1", talk.room.trouble(-1, 0), NONE);
    }

    private static void troubleOfDoing() {
        Talk talk = Talk.withFive();
        troubled(talk, "drop", 5, NONE);
        troubled(talk, "take the box", 5, NONE);
        troubled(talk, "take a box", 5, NONE);
        troubled(talk, "take a big blue thing", 0, NONE);
        troubled(talk, "put the box down", 5, NONE);
        troubled(talk, "put the pyramid on the box", 5, NONE);
        troubled(talk, "put the pyramid in the red block", 5, NONE);
        troubled(talk, "put the pyramid on the pyramid", 5, NONE);
        troubled(talk, "put the red block on the red block", 5, NONE);
        troubled(talk, "put the red block on a red block", 5, NONE);
        troubled(talk, "put a block on a block", 0, NONE);
        troubled(talk, "put a thing in a thing", 0, NONE);
        talk.stack(0, 1);
        talk.stack(4, 0);
        troubled(talk, "put the green block on the red block", 5, NONE);
        troubled(talk, "put the green block on the blue block", 5, NONE);
        troubled(talk, "put the green block on a block", 5, NONE);
        troubled(talk, "put the blue block on the green block", 0, NONE);
        talk.room.act(0, 2);
        troubled(talk, "drop", 0, NONE);
    }

    private static void taken() {
        Talk talk = Talk.withFive();
        talk.room.act(0, 0);
        talk.room.act(3, 3);
        talk.stack(2, 0);
        talk.said("which thing on a block in a box", 2);
        Talk.due("two answers", talk.room.taken(), -2);
        talk.said("many thing on a block in a box", 2);
        Talk.due("two numbers", talk.room.taken(), -2);
        talk.said("i own thing on a block in a box", 2);
        Talk.due("two sets", talk.room.taken(), -2);
        talk.said("foo means thing on a block in a box", 2);
        Talk.due("means: always the first", talk.room.taken(), 0);
        talk.said("which white thing on a block in a box", 2);
        Talk.due("the same answer", talk.room.taken(), 0);
        talk.said("put the pyramid on the block in the box", 2);
        Talk.due("only the first fits", talk.room.taken(), 0);
        talk.said("put the thing on a block in the box", 2);
        Talk.due("only the second fits", talk.room.taken(), 1);
        talk.said("put the red pyramid on a block in a box", 2);
        Talk.due("two places", talk.room.taken(), -2);
        talk.said("take a thing on a block in a box", 2);
        Talk.due("the second alone means one", talk.room.taken(), 1);
        talk.said("take the white one on a block in a box", 2);
        Talk.due("none fits", talk.room.taken(), -3);
    }

    private static void answers() {
        Talk talk = Talk.withFive();
        talk.stack(0, 1);
        answered(talk, "is the red block on the green block", 1);
        answered(talk, "is the red block on the blue block", 0);
        answered(talk, "is the green block under a block", 1);
        answered(talk, "is a block in a box", 0);
        answered(talk, "is a block on a thing", 1);
        answered(talk, "many block", 3);
        answered(talk, "many white block", 0);
        answered(talk, "which block", 19);
        answered(talk, "which white block", 0);
        answered(talk, "which block on the block", -2);
        answered(talk, "is it on a block", -2);
        answered(talk, "take a block", NONE);
        answered(talk, "take it", NONE);
        answered(talk, "foo means block", NONE);
        answered(talk, "i own block", NONE);
    }

    private static void answered(Talk talk, String text, int want) {
        talk.say(text);
        Talk.due("answer of '" + text + "'", talk.room.answer(), want);
    }

    private static void mentioned() {
        Talk talk = Talk.withFive();
        talk.doneAs("put the red block on the green block", 0);
        Talk.due("last", talk.room.mentioned(0), 1);
        Talk.due("ahead of it", talk.room.mentioned(1), 0);
        Talk.due("ahead of all", talk.room.mentioned(2), NONE);
        talk.doneAs("is a block on it", 1);
        Talk.due("a that means many is not, it is", talk.room.mentioned(0), 1);
        Talk.due("once more", talk.room.mentioned(1), 1);
        talk.doneAs("take the block on a green block", 2);
        Talk.due("what was meant ahead of the acts", talk.room.mentioned(1), 0);
        Talk.due("by their places", talk.room.mentioned(0), 1);
        talk.say("take the box");
        talk.room.done();
        Talk.due("what is not done is not mentioned", talk.room.mentioned(0), 1);
        talk.room.undo();
        Talk.due("undone acts leave it", talk.room.mentioned(0), 1);
        Talk.due("mentioned -1", talk.room.mentioned(-1), NONE);
    }

    private static void noneAtHand() {
        RoomTalk room = Talk.withFive().room;
        Talk.due("means", room.means(0, 0), NONE);
        Talk.due("trouble", room.trouble(0, 0), NONE);
        Talk.due("taken", room.taken(), NONE);
        Talk.due("answer", room.answer(), NONE);
        Talk.due("plan", room.plan(NONE), NONE);
        Talk.due("judge", room.judge(0), NONE);
    }
}
