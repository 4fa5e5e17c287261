/** Promises 20, 21, 24 and 25: judge, breaks, check, count. */
public final class CountingTest {
    private static final int NONE = RoomTalk.NONE;

    public static void main(String[] args) {
        judge();
        check();
        count();
        Talk.finish();
    }

    private static void judge() {
        Talk talk = Talk.withFive();
        RoomTalk room = talk.room;
        room.act(0, 0);
        room.act(3, 3);
        talk.stack(2, 0);
        talk.said("put the pyramid on the block in the box", 2);
        Talk.due("read so", room.judge(0), 1);
        Talk.due("breaks", room.breaks(0), 0);
        Talk.due("no first", room.breaks(1), NONE);
        Talk.due("read otherwise", room.judge(1), 0);
        Talk.due("judge 2", room.judge(2), NONE);
        Talk.due("judge -1", room.judge(-1), NONE);
        Talk.due("breaks", room.breaks(0), 1);
        Talk.due("the first", room.breaks(1), 1);
        talk.said("which thing on a block in a box", 2);
        Talk.due("none taken", room.judge(0), 0);
        Talk.due("breaks", room.breaks(0), 2);
        Talk.due("the first stays", room.breaks(1), 1);
        Talk.due("judged", room.count(5), 3);
        Talk.due("breaks 2", room.breaks(2), NONE);
        Talk.due("breaks -1", room.breaks(-1), NONE);
        talk.said("take the pyramid", 1);
        room.done();
        Talk.due("none at hand", room.judge(0), NONE);
        Talk.due("judged", room.count(5), 3);
    }

    private static void check() {
        Talk talk = Talk.withFive();
        RoomTalk room = talk.room;
        talk.stack(0, 1);
        room.act(0, 2);
        checked(room, NONE, 0, 1, 1, 16, 2, 17, 3, 16, 4, 16);
        checked(room, 1, 0, 16, 1, 16, 2, 17, 3, 16, 4, 16);
        checked(room, 2, 0, 1, 2, 17, 1, 16, 3, 16, 4, 16);
        checked(room, 9, 0, 1, 1, 16, 2, 17, 3, 16, 4, 17);
        checked(room, 8, 0, 1, 1, 16, 2, 17, 3, 16);
        checked(room, 10, 0, 1, 1, 16, 2, 17, 3, 16, 4, 16, 5, 16);
        checked(room, 0, -1, 1);
        checked(room, 1, 0, 257);
        checked(room, 0, 256, 1);
        Talk.due("check 0", room.check(0), 0);
        Talk.due("check of no things", new RoomTalk().check(0), NONE);
        Talk.due("check of an empty tape", room.check(1), -2);
        room.feed(0, 1, 1, 16, 2);
        Talk.due("check 3 of 5 numbers", room.check(3), -2);
        Talk.due("check -1", room.check(-1), -2);
        Talk.due("check of very many", room.check(0x20000000), -2);
        Talk.due("check of most", room.check(Integer.MAX_VALUE), -2);
        Talk.due("the tape stays", room.count(6), 20);
        Talk.due("check 2", room.check(2), 4);
        Talk.due("the tape is empty", room.count(6), 0);
        for (int i = 0; i < 10; i++) {
            room.feed(0, 1, 1, 16, 2);
        }
        Talk.due("check of a full tape's 26 twos", room.check(26), -2);
        Talk.due("check of a full tape", room.check(25), 5);
    }

    private static void checked(RoomTalk room, int want, int... numbers) {
        int[] padded = java.util.Arrays.copyOf(numbers, (numbers.length + 4) / 5 * 5);
        for (int i = 0; i < padded.length; i += 5) {
            room.feed(padded[i], padded[i + 1], padded[i + 2], padded[i + 3], padded[i + 4]);
        }
        Talk.due("check of " + java.util.Arrays.toString(numbers), room.check(numbers.length / 2), want);
    }

    private static void count() {
        Talk talk = Talk.withFive();
        counted(talk.room, 5, 0, 0, 0, 0, 0, 0, 0, NONE, NONE, NONE);
        talk.doneAs("take the pyramid", 0);
        talk.doneAs("foo means block", 1);
        talk.doneAs("i own no foo", 2);
        talk.say("put the pyramid on a block on a block");
        talk.room.judge(1);
        counted(talk.room, 5, 1, 3, 1, 1, 1, 0, 1, 3, 2, 2);
        talk.room.feed(0, 0, 0, 0, 0);
        Talk.due("count 6", talk.room.count(6), 20);
        talk.room.check(0);
        talk.say("drop");
        counted(talk.room, 5, 1, 3, 1, 1, 1, 0, 1, 0, 0, 1);
    }

    private static void counted(RoomTalk room, int... counts) {
        for (int what = 0; what < counts.length; what++) {
            Talk.due("count " + what, room.count(what), counts[what]);
        }
        Talk.due("count 11", room.count(11), NONE);
        Talk.due("count -1", room.count(-1), NONE);
    }
}
