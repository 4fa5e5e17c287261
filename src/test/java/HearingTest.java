/** Promises 9 to 11: feed, say with its faults, reading. */
public final class HearingTest {
    private static final int NONE = RoomTalk.NONE;

    public static void main(String[] args) {
        feed();
        tapeOfSay();
        rightSayings();
        faultOrder();
        faultUnknown();
        faultKnown();
        faultSeventh();
        faultByte();
        faultAheadOfBlankAtEnd();
        readings();
        Talk.finish();
    }

    private static void feed() {
        RoomTalk room = new RoomTalk();
        for (int i = 1; i <= 10; i++) {
            Talk.due("feed " + i, room.feed(0, 0, 0, 0, 0), 20 * i);
        }
        Talk.due("feed beyond 200", room.feed(0, 0, 0, 0, 0), NONE);
        Talk.due("tape", room.count(6), 200);
        room = new RoomTalk();
        room.feed(0, 16, 0x01020304, -1, 0x80000000);
        room.thing(0, 0, 1);
        Talk.due("the numbers come back in order", room.check(2), 2);
    }

    private static void tapeOfSay() {
        Talk talk = new Talk();
        Talk.due("say of an empty tape", talk.room.say(1), NONE);
        talk.said("drop", 1);
        talk.room.feed(0x64726f70, 0, 0, 0, 0);
        Talk.due("say 0", talk.room.say(0), NONE);
        Talk.due("say -1", talk.room.say(-1), NONE);
        Talk.due("say 21 of 20", talk.room.say(21), NONE);
        Talk.due("the tape stays", talk.room.count(6), 20);
        Talk.due("the saying stays", talk.room.count(7), 1);
        Talk.due("say 5", talk.room.say(5), -5004);
        Talk.due("a fault empties the tape", talk.room.count(6), 0);
        Talk.due("a fault leaves none at hand", talk.room.count(7), 0);
        for (int i = 0; i < 6; i++) {
            talk.room.feed(0x64726f70, 0, 0, 0, 0);
        }
        Talk.due("say 101", talk.room.say(101), NONE);
        Talk.due("say 4 of 120", talk.room.say(4), 1);
        Talk.due("the rest is gone", talk.room.count(6), 0);
        StringBuilder longest = new StringBuilder("many");
        for (int i = 0; i < 18; i++) {
            longest.append(" blue");
        }
        talk.said(longest + " thing", 1);
        Talk.due("a hundred bytes", longest.length() + 6, 100);
    }

    private static void rightSayings() {
        Talk talk = Talk.withFive();
        String[] single = {"put it down", "put that on it", "put the block in a box", "take a big red thing", "drop",
            "is it under a block", "is a box in that", "many small pyramid", "which one", "foo means one",
            "ab means block", "abcdefghij means red red block", "i own thing", "i own no big box",
            "put the block under it on a box", "take it"};
        for (String text : single) {
            talk.said(text, 1);
        }
    }

    private static void faultOrder() {
        Talk talk = Talk.withFive();
        talk.said("put", -1003);
        talk.said("block", -1000);
        talk.said("on", -1000);
        talk.said("means", -1000);
        talk.said("put block", -1004);
        talk.said("put the", -1007);
        talk.said("put the red", -1011);
        talk.said("put the red it", -1012);
        talk.said("put the block", -1013);
        talk.said("put the block under a box", -1025);
        talk.said("put it under a box", -1007);
        talk.said("put it on it on a box", -1013);
        talk.said("put it down down", -1012);
        talk.said("put down", -1004);
        talk.said("take it down", -1008);
        talk.said("take it on a box", -1008);
        talk.said("take the block block", -1015);
        talk.said("drop drop", -1005);
        talk.said("is it", -1005);
        talk.said("is it down", -1006);
        talk.said("is it on", -1008);
        talk.said("is it on it in it", -1012);
        talk.said("many", -1004);
        talk.said("many no box", -1005);
        talk.said("which a box", -1006);
        talk.said("i", -1001);
        talk.said("i own", -1005);
        talk.said("i own no", -1008);
        talk.said("i own no no", -1009);
        talk.said("i own the box", -1006);
        talk.said("foo means", -1009);
        talk.said("foo means the box", -1010);
        talk.said("foo means box down", -1014);
        talk.said("many box red", -1009);
    }

    private static void faultUnknown() {
        Talk talk = Talk.withFive();
        talk.said("foo", -2000);
        talk.said("foo mean", -2000);
        talk.said("foo meansx box", -2000);
        talk.said("x means box", -2000);
        talk.said("abcdefghijk means box", -2000);
        talk.said("take foo", -2005);
        talk.said("take the foo means", -2009);
        talk.said("foo means foo", -2010);
        talk.said("drop foo", -2005);
        talk.said("blocks", -2000);
        talk.said("bloc", -2000);
        talk.doneAs("foo means box", 0);
        talk.said("take the foo", 1);
        talk.said("take the fo", -2009);
        talk.said("take the fooo", -2009);
        talk.said("foo", -1000);
    }

    private static void faultKnown() {
        Talk talk = Talk.withFive();
        talk.said("block means box", -3000);
        talk.said("put means box", -3000);
        talk.said("means means box", -3000);
        talk.said("on means", -3000);
        talk.doneAs("foo means box", 0);
        talk.said("foo means block", -3000);
        talk.said("bar means foo", 1);
    }

    private static void faultSeventh() {
        Talk talk = Talk.withFive();
        String six = "many one on it in it under it on it in it under it";
        talk.said(six, 1);
        talk.said(six + " on it", -4000 - six.length() - 1);
        talk.said(six + " on", -4000 - six.length() - 1);
        talk.said("many one on it on it on it on it on it on on", -4042);
        talk.said("many one on it on it on it on it on it on foo", -2042);
        talk.said("put it on it on it on it on it on it on it", -1013);
    }

    private static void faultByte() {
        Talk talk = Talk.withFive();
        talk.said(" take it", -5000);
        talk.said(" ", -5000);
        talk.said("take  it", -5005);
        talk.said("take it ", -5007);
        talk.said("Take it", -5000);
        talk.said("take it9", -5007);
        talk.said("take foo9", -5008);
        talk.said("take it\n", -5007);
        talk.said("take it" + (char) 225, -5007);
        talk.said("take foo  it", -2005);
        talk.said("put block 9", -1004);
        talk.said("take{it", -5004);
        talk.said("take`it", -5004);
    }

    private static void faultAheadOfBlankAtEnd() {
        Talk talk = Talk.withFive();
        talk.said("ng ", -2000);
        talk.said("take foo ", -2005);
        talk.said("foo means bar ", -2010);
        talk.said("put block ", -1004);
        talk.said("drop it ", -1005);
        talk.said("box means ", -3000);
        String six = "many one on it in it under it on it in it under it";
        talk.said(six + " on ", -4000 - six.length() - 1);
        talk.said(six + " ", -5000 - six.length());
        talk.said("take foo  ", -2005);
        talk.said("take it  ", -5008);
        talk.said("take ", -5004);
        talk.said("drop ", -5004);
        talk.said("foo means ", -5009);
        talk.said("put it ", -5006);
        Talk.due("no saying at hand behind a fault", talk.room.count(7), 0);
    }

    private static void readings() {
        Talk talk = Talk.withFive();
        talk.said("put the block on the box on a block", 2);
        rows(talk, new int[][] {{0, 2}, {1, 0}});
        talk.said("which thing on a thing in a thing under a thing", 5);
        rows(talk, new int[][] {{1, 1, 1}, {1, 1, 3}, {1, 2, 1}, {1, 2, 2}, {1, 2, 3}});
        talk.said("put a block on a block under a block in a box", 4);
        rows(talk, new int[][] {{0, 2, 2}, {0, 2, 3}, {1, 1, 0}, {1, 2, 0}});
        talk.said("put a block under it on a box", 1);
        rows(talk, new int[][] {{1, 0}});
        talk.said("put it on a block in a box", 1);
        rows(talk, new int[][] {{0, 2}});
        talk.said("is a block on it on that", 1);
        rows(talk, new int[][] {{1, 0}});
        talk.said("put the block on a block in a box down", 2);
        rows(talk, new int[][] {{1, 1}, {1, 2}});
        talk.said("take a thing on it in a thing on a thing", 2);
        rows(talk, new int[][] {{1, 1, 1}, {1, 1, 3}});
        talk.said("put a box on a box on a box on a box on a box on a box on a box", 132);
        talk.said("many box on a box on a box on a box on a box on a box on a box", 132);
        Talk.due("the last one", talk.room.reading(131, 5), 6);
        talk.said("is a box in a box in a box in a box in a box in a box in a box", 132);
        talk.said("drop", 1);
        Talk.due("reading of drop", talk.room.reading(0, 0), NONE);
        talk.room.act(0, 0);
        talk.room.done();
        Talk.due("reading with none at hand", talk.room.reading(0, 0), NONE);
    }

    private static void rows(Talk talk, int[][] owners) {
        for (int r = 0; r < owners.length; r++) {
            for (int i = 0; i < owners[r].length; i++) {
                Talk.due("reading " + r + " " + i, talk.room.reading(r, i), owners[r][i]);
            }
            Talk.due("reading behind the last onward", talk.room.reading(r, owners[r].length), NONE);
            Talk.due("reading of onward -1", talk.room.reading(r, -1), NONE);
        }
        Talk.due("reading behind the last", talk.room.reading(owners.length, 0), NONE);
        Talk.due("reading -1", talk.room.reading(-1, 0), NONE);
        Talk.due("count 9", talk.room.count(9), owners[0].length);
        Talk.due("count 10", talk.room.count(10), owners.length);
    }
}
