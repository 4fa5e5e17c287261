import java.util.ArrayList;
import java.util.Collections;
import java.util.List;
import java.util.function.Consumer;
import java.util.function.Supplier;
import java.util.function.ToIntFunction;

/**
 * "A call that is refused (NONE, false) changes nothing but the tape, where it is told": two rooms are made alike,
 * the call is made in one of them alone, and then all that can be asked is asked of both.
 */
public final class RefusedTest {
    private static final int NONE = RoomTalk.NONE;
    private static final int[] ODD = {Integer.MIN_VALUE, -1000, -2, 1000, Integer.MAX_VALUE};

    public static void main(String[] args) {
        inANewRoom();
        inARoomInUse();
        withAFullHand();
        whenFull();
        whenDoneInVain();
        askingChangesNothing();
        faultsChangeNoMore();
        checksChangeNoMore();
        Talk.finish();
    }

    /** Made by hand and by sayings, with a saying of two readings at hand, and a tape of twenty bytes. */
    private static Talk inUse() {
        Talk talk = Talk.withFive();
        talk.stack(0, 1);
        talk.doneAs("foo means block on a block", 0);
        talk.doneAs("i own foo", 1);
        talk.doneAs("put the pyramid on the foo", 2);
        talk.doneAs("i own no red thing", 3);
        talk.said("take the block", 1);
        talk.room.judge(0);
        talk.said("put the pyramid on a block in the box", 2);
        talk.room.feed(0x64726f70, 1, 2, 3, 4);
        return talk;
    }

    private static List<Integer> answersOf(Talk talk) {
        RoomTalk room = talk.room;
        List<Integer> answers = new ArrayList<>();
        for (int what = 0; what <= 10; what++) {
            answers.add(room.count(what));
        }
        for (int x = 0; x < room.count(0); x++) {
            Collections.addAll(answers, room.where(x), room.over(x, 0), room.owned(x));
        }
        for (int e = Math.max(0, room.count(1) - 8); e < room.count(1); e++) {
            for (int what = 0; what < 6; what++) {
                answers.add(room.event(e, what));
            }
        }
        for (int k = 0; k < 8; k++) {
            Collections.addAll(answers, room.mentioned(k), room.noun(k), room.acts(k));
        }
        Collections.addAll(answers, room.breaks(0), room.breaks(1), room.taken(), room.answer(), room.plan(NONE));
        for (int i = 0; i < 12; i++) {
            answers.add(room.plan(i));
        }
        for (int r = 0; r < room.count(10); r++) {
            for (int k = 0; k < room.count(8); k++) {
                Collections.addAll(answers, room.reading(r, k), room.means(r, k), room.trouble(r, k));
            }
        }
        answers.addAll(answersBehindAll(talk));
        return answers;
    }

    /** What is left on the tape, the saying done, and what one is, can only be told by changing the room. */
    private static List<Integer> answersBehindAll(Talk talk) {
        List<Integer> answers = new ArrayList<>();
        answers.add(talk.room.done());
        answers.add(talk.room.say(Math.min(100, talk.room.count(6))));
        answers.add(talk.room.check(0));
        answers.add(talk.say("is one"));
        answers.add(talk.say("which one"));
        answers.add(talk.room.answer());
        answers.add(talk.room.undo());
        return answers;
    }

    private static void refused(String call, Supplier<Talk> made, ToIntFunction<RoomTalk> refused, int want) {
        Talk talk = made.get();
        Talk.due(call, refused.applyAsInt(talk.room), want);
        same(call, talk, made.get());
    }

    private static void same(String call, Talk one, Talk other) {
        Talk.due("nothing but what is told changes by " + call, answersOf(one).equals(answersOf(other)) ? 1 : 0, 1);
    }

    private static void inANewRoom() {
        Supplier<Talk> made = Talk::new;
        refused("undo", made, RoomTalk::undo, NONE);
        refused("done", made, RoomTalk::done, NONE);
        refused("judge", made, room -> room.judge(0), NONE);
        refused("say", made, room -> room.say(1), NONE);
        refused("check", made, room -> room.check(1), -2);
        refused("take", made, room -> room.act(0, 0), NONE);
        refused("down", made, room -> room.act(2, NONE), NONE);
    }

    private static void inARoomInUse() {
        Supplier<Talk> made = RefusedTest::inUse;
        refused("a sort", made, room -> room.thing(3, 0, 1), NONE);
        refused("a colour", made, room -> room.thing(0, 4, 1), NONE);
        refused("a size too small", made, room -> room.thing(0, 0, 0), NONE);
        refused("a size too large", made, room -> room.thing(0, 0, 10), NONE);
        refused("take what bears", made, room -> room.act(0, 1), NONE);
        refused("take a box", made, room -> room.act(0, 3), NONE);
        refused("on with an empty hand", made, room -> room.act(1, 4), NONE);
        refused("down with an empty hand", made, room -> room.act(2, NONE), NONE);
        refused("in with an empty hand", made, room -> room.act(3, 3), NONE);
        refused("say 0", made, room -> room.say(0), NONE);
        refused("say 21", made, room -> room.say(21), NONE);
        refused("say 101", made, room -> room.say(101), NONE);
        refused("check 3", made, room -> room.check(3), -2);
        refused("check -1", made, room -> room.check(-1), -2);
        refused("judge 2", made, room -> room.judge(2), NONE);
        refused("judge -1", made, room -> room.judge(-1), NONE);
        for (int odd : ODD) {
            refused("thing " + odd, made, room -> room.thing(odd, odd, odd), NONE);
            refused("kind " + odd, made, room -> room.act(odd, 0), NONE);
            refused("take " + odd, made, room -> room.act(0, odd), NONE);
            refused("say " + odd, made, room -> room.say(odd), NONE);
            refused("check " + odd, made, room -> room.check(odd), -2);
            refused("judge " + odd, made, room -> room.judge(odd), NONE);
        }
    }

    private static void withAFullHand() {
        Supplier<Talk> made = () -> {
            Talk talk = inUse();
            talk.room.act(0, 2);
            return talk;
        };
        refused("take", made, room -> room.act(0, 4), NONE);
        refused("take what is in the hand", made, room -> room.act(0, 2), NONE);
        refused("on what bears", made, room -> room.act(1, 1), NONE);
        refused("on itself", made, room -> room.act(1, 2), NONE);
        refused("on a box", made, room -> room.act(1, 3), NONE);
        refused("in a block", made, room -> room.act(3, 4), NONE);
        refused("down onto a block", made, room -> room.act(2, 4), NONE);
        refused("kind 4", made, room -> room.act(4, NONE), NONE);
    }

    private static void whenFull() {
        refused("a 17th thing", () -> {
            Talk talk = inUse();
            for (int x = 5; x < 16; x++) {
                talk.room.thing(1, 1, 1);
            }
            return talk;
        }, room -> room.thing(0, 0, 1), NONE);
        refused("a 201st event", RefusedTest::withAllEvents, room -> room.act(0, 4), NONE);
        refused("a tape beyond 200", () -> {
            Talk talk = inUse();
            for (int i = 0; i < 9; i++) {
                talk.room.feed(5, 6, 7, 8, 9);
            }
            return talk;
        }, room -> room.feed(1, 2, 3, 4, 5), NONE);
        refused("a 61st judged", () -> {
            Talk talk = inUse();
            for (int i = 1; i < 60; i++) {
                talk.room.judge(0);
            }
            return talk;
        }, room -> room.judge(1), NONE);
    }

    private static Talk withAllEvents() {
        Talk talk = inUse();
        for (int e = talk.room.count(1); e < 200; e++) {
            talk.room.act(e % 2 == 0 ? 0 : 2, e % 2 == 0 ? 4 : NONE);
        }
        return talk;
    }

    private static Talk saying(Talk talk, String text) {
        talk.room.check(0);
        talk.say(text);
        return talk;
    }

    private static void whenDoneInVain() {
        refused("done, none fits", () -> saying(inUse(), "take the block"), RoomTalk::done, -2);
        refused("done, more than one fits", () -> {
            Talk talk = inUse();
            talk.room.act(0, 4);
            talk.room.act(3, 3);
            return saying(talk, "put the pyramid on a block in a box");
        }, RoomTalk::done, -2);
        refused("done, asked", () -> saying(inUse(), "which block on it on a block on a white block"), RoomTalk::done, -2);
        refused("done, too many events", () -> saying(withAllEvents(), "take the foo"), RoomTalk::done, -3);
        refused("done, a 61st", () -> {
            Talk talk = inUse();
            talk.room.check(0);
            for (int m = 4; m < 60; m++) {
                talk.doneAs("many box", m);
            }
            return saying(talk, "bar means pyramid");
        }, RoomTalk::done, -3);
        refused("done, a ninth word", () -> {
            Talk talk = inUse();
            talk.room.check(0);
            for (int k = 1; k < 8; k++) {
                talk.doneAs("b" + (char) ('a' + k) + " means white foo", 3 + k);
            }
            return saying(talk, "bar means pyramid");
        }, RoomTalk::done, -3);
        refused("done, a 21st statement", () -> {
            Talk talk = inUse();
            talk.room.check(0);
            for (int i = 2; i < 20; i++) {
                talk.doneAs("i own foo", 2 + i);
            }
            return saying(talk, "i own no pyramid");
        }, RoomTalk::done, -3);
    }

    private static void askingChangesNothing() {
        for (int a : new int[] {-2, -1, 0, 1, 2, 5, 16, 200}) {
            for (int b : new int[] {-2, -1, 0, 1, 2, 5, 16, 200}) {
                Talk talk = inUse();
                askAll(talk.room, a, b);
                same("asking with " + a + " and " + b, talk, inUse());
            }
        }
    }

    private static void askAll(RoomTalk room, int a, int b) {
        room.where(a);
        room.over(a, b);
        room.was(a, b);
        room.event(a, b);
        room.reading(a, b);
        room.means(a, b);
        room.trouble(a, b);
        room.taken();
        room.answer();
        room.plan(a);
        room.mentioned(a);
        room.owned(a);
        room.breaks(a);
        room.acts(a);
        room.noun(a);
        room.count(a);
    }

    private static void changesAsOne(String call, Consumer<Talk> first, Consumer<Talk> second) {
        Talk talk = inUse();
        first.accept(talk);
        Talk other = inUse();
        second.accept(other);
        same(call, talk, other);
    }

    /** A fault takes the tape and the saying at hand, and nothing else. */
    private static void faultsChangeNoMore() {
        String[] faulty = {"take", "take the white", "bar means", "bar means bar", "i own no", "block means pyramid",
            "many pyramid" + " on it".repeat(7), "many pyramid ", " many pyramid", "put a pyramid under a box"};
        for (String text : faulty) {
            changesAsOne("'" + text + "'", talk -> {
                talk.room.check(0);
                Talk.due("'" + text + "' is a fault", talk.say(text) <= -1000 ? 1 : 0, 1);
            }, talk -> Talk.due("a byte that is none", talk.room.say(20), -5004));
        }
    }

    /** A check, right or wrong, takes the tape alone. */
    private static void checksChangeNoMore() {
        changesAsOne("a check that is wrong", talk -> Talk.due("check 2", talk.room.check(2), 0),
            talk -> Talk.due("check 0", talk.room.check(0), 0));
        changesAsOne("a check that is right", talk -> {
            talk.room.check(0);
            talk.room.feed(0, 1, 1, 16, 2);
            talk.room.feed(0, 3, 16, 4, 16);
            Talk.due("check 5", talk.room.check(5), NONE);
        }, talk -> Talk.due("check 0", talk.room.check(0), 0));
    }
}
