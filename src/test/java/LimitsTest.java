/** What is refused when the room is full, and that refusing changes nothing. */
public final class LimitsTest {
    private static final int NONE = RoomTalk.NONE;

    public static void main(String[] args) {
        events();
        sayings();
        toldWords();
        statements();
        judged();
        manyWordsByWords();
        tallTower();
        wrongArguments();
        Talk.finish();
    }

    private static void events() {
        Talk talk = Talk.withFive();
        for (int i = 0; i < 99; i++) {
            talk.room.act(0, 0);
            talk.room.act(2, NONE);
        }
        talk.stack(2, 0);
        Talk.due("take a 201st", talk.room.act(0, 2), NONE);
        talk.doneAs("take the pyramid", -3);
        Talk.due("it is not done", talk.room.where(2), 0);
        Talk.due("it stays at hand", talk.room.count(7), 1);
        Talk.due("its plan stands", talk.room.plan(NONE), 1);
        talk.doneAs("put the pyramid on the red block", 0);
        talk.room.undo();
        talk.doneAs("take the red block", -3);
        Talk.due("nothing of it is done", talk.room.count(1), 199);
        talk.doneAs("drop", 1);
        Talk.due("the 200th event", talk.room.event(199, 4), 1);
        Talk.due("events", talk.room.count(1), 200);
    }

    private static void sayings() {
        Talk talk = Talk.withFive();
        talk.stack(0, 1);
        talk.doneAs("which green block", 0);
        for (int i = 1; i < 60; i++) {
            talk.doneAs("which block" + sixTimes(" on it"), i);
        }
        Talk.due("the first mentioned", talk.room.mentioned(413), 1);
        Talk.due("the second mentioned", talk.room.mentioned(412), 0);
        Talk.due("ahead of the first", talk.room.mentioned(414), NONE);
        talk.doneAs("take the pyramid", -3);
        Talk.due("not done", talk.room.where(2), 16);
        talk.doneAs("take the block", -2);
        Talk.due("sayings", talk.room.count(2), 60);
        Talk.due("acts of the last", talk.room.acts(59), 0);
        Talk.due("acts of none", talk.room.acts(60), NONE);
    }

    private static void toldWords() {
        Talk talk = Talk.withFive();
        String[] words = {"aa", "bb", "cc", "dd", "ee", "ff", "gg", "hh"};
        for (int i = 0; i < 8; i++) {
            talk.doneAs(words[i] + " means red thing", i);
        }
        talk.doneAs("ii means red thing", -3);
        Talk.due("words", talk.room.count(3), 8);
        Talk.due("noun 7", talk.room.noun(7), 5);
        Talk.due("noun 8", talk.room.noun(8), NONE);
        talk.said("take a ii", -2007);
    }

    private static void statements() {
        Talk talk = Talk.withFive();
        for (int i = 0; i < 20; i++) {
            talk.doneAs(i % 2 == 0 ? "i own pyramid" : "i own no block", i);
        }
        talk.doneAs("i own box", -3);
        Talk.due("statements", talk.room.count(4), 20);
        Talk.due("owned", talk.room.owned(3), 2);
    }

    private static void judged() {
        Talk talk = Talk.withFive();
        talk.say("take the pyramid");
        for (int i = 0; i < 60; i++) {
            Talk.due("judge", talk.room.judge(0), 1);
        }
        Talk.due("a 61st", talk.room.judge(0), NONE);
        Talk.due("judged", talk.room.count(5), 60);
    }

    /** Each word is told by six of the one ahead: asked anew each time, it would hardly end. */
    private static void manyWordsByWords() {
        Talk talk = new Talk();
        for (int i = 0; i < 10; i++) {
            talk.room.thing(0, 0, 1);
        }
        for (int i = 1; i < 10; i++) {
            talk.stack(i, i - 1);
        }
        String[] words = {"aa", "bb", "cc", "dd", "ee", "ff", "gg", "hh"};
        String last = "thing";
        for (int i = 0; i < 8; i++) {
            talk.doneAs(words[i] + " means thing" + sixTimes(" on a " + last), i);
            last = words[i];
        }
        Talk.due("the last word", talk.room.noun(7), 768);
        talk.said("which thing" + sixTimes(" on a hh"), 132);
        Talk.due("means", talk.room.means(0, 0), 512);
        Talk.due("taken", talk.room.taken(), -2);
    }

    private static String sixTimes(String text) {
        return text + text + text + text + text + text;
    }

    private static void tallTower() {
        Talk talk = new Talk();
        for (int i = 0; i < 16; i++) {
            talk.room.thing(0, i == 0 ? 0 : i == 14 ? 1 : i == 15 ? 3 : 2, 1);
        }
        for (int i = 1; i < 15; i++) {
            talk.stack(i, i - 1);
        }
        talk.room.act(0, 15);
        talk.said("put the green block on the red block", 1);
        Talk.due("the longest plan", talk.room.plan(NONE), 1 + 2 * 14 + 2);
        Talk.due("its first", talk.room.plan(2), 20);
        Talk.due("its second", talk.room.plan(4), 14);
        Talk.due("for what", talk.room.plan(5), 0);
        Talk.due("done", talk.room.done(), 0);
        Talk.due("where", talk.room.where(14), 0);
        Talk.due("where", talk.room.where(1), 16);
    }

    private static void wrongArguments() {
        int[] odd = {Integer.MIN_VALUE, -1000000, -2, -1, 0, 1, 16, 31, 32, 33, 200, 1000000, Integer.MAX_VALUE};
        for (int a : odd) {
            for (int b : odd) {
                Talk talk = Talk.withFive();
                talk.say("put the block on the box on a block");
                askAll(talk.room, a, b);
                Talk.due("nothing has changed", talk.room.count(7), 1);
                Talk.due("readings", talk.room.count(10), 2);
            }
        }
    }

    private static void askAll(RoomTalk room, int a, int b) {
        boolean isThing = a >= 0 && a < 5;
        Talk.due("where " + a, room.where(a), isThing ? 16 : NONE);
        Talk.due("owned " + a, room.owned(a), isThing ? 2 : NONE);
        Talk.due("over " + a, room.over(a, b), NONE);
        Talk.due("was " + a, room.was(a, b), NONE);
        Talk.due("event " + a, room.event(a, b), NONE);
        Talk.due("thing " + a, room.thing(a, b, 0), NONE);
        Talk.due("act " + a, room.act(a, a == 0 ? 99 : b), NONE);
        Talk.due("acts " + a, room.acts(a), NONE);
        Talk.due("noun " + a, room.noun(a), NONE);
        Talk.due("mentioned " + a, room.mentioned(a), NONE);
        Talk.due("say " + a, room.say(a), NONE);
        Talk.due("plan " + a, room.plan(a), -2);
        boolean isReading = a == 0 || a == 1;
        if (!isReading || b < 0 || b > 2) {
            Talk.due("reading " + a + " " + b, room.reading(a, b), NONE);
            Talk.due("means " + a + " " + b, room.means(a, b), NONE);
            Talk.due("trouble " + a + " " + b, room.trouble(a, b), NONE);
        }
        if (!isReading) {
            Talk.due("judge " + a, room.judge(a), NONE);
            Talk.due("breaks " + a, room.breaks(a), NONE);
        }
        if (a < 0 || a > 10) {
            Talk.due("count " + a, room.count(a), NONE);
        }
        if (a != 0) {
            Talk.due("check " + a, room.check(a), -2);
        }
    }
}
