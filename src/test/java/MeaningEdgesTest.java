/** Part 3 of the terms and promises 12 to 15, 18 and 23: a test for each sentence that names a boundary, which stands above it. */
public final class MeaningEdgesTest {
    private static final int NONE = RoomTalk.NONE;
    private static final int[] ODD = {-1, 7, 132, 264, Integer.MIN_VALUE, Integer.MAX_VALUE};

    public static void main(String[] args) {
        meansEdges();
        bitsOfSixteen();
        bigAndSmall();
        colours();
        oneOfNothing();
        oneOfTheLastN();
        oneOfDoneOnly();
        oneOfASayingWithout();
        oneOfAWordTold();
        toldInThisRoomNow();
        toldWithOne();
        toldWithItAndThat();
        toldByItsFirstReading();
        toldByWordsTold();
        linksAllHold();
        linksAreDirect();
        itOfNothing();
        thatOfNothing();
        theEdges();
        aEdges();
        itAndThatEdges();
        bareNHasNone();
        firstNpWithOne();
        cantBeDoneComesLast();
        boxToBeMoved();
        lowestToBeMoved();
        whereIsOfNoUse();
        whereStandsOnIt();
        lowestThatWillDo();
        dropEdges();
        troubleEdges();
        takenIsTheFirstThatFits();
        takenThingAndPlace();
        takenSameAnswer();
        takenOfOwn();
        takenOfMeans();
        takenEdges();
        answersOfIs();
        answersOfManyAndWhich();
        answerEdges();
        mentionedEdges();
        mentionedByTheReadingTaken();
        mentionedAsOften();
        nounEdges();
        Talk.finish();
    }

    private static void means(Talk talk, String text, int want) {
        talk.say(text);
        Talk.due("means 0 0 of '" + text + "'", talk.room.means(0, 0), want);
    }

    private static void trouble(Talk talk, String text, int which, int np) {
        talk.say(text);
        Talk.due("trouble of '" + text + "'", talk.room.trouble(0, 0), which);
        Talk.due("trouble's NP of '" + text + "'", talk.room.trouble(0, 1), np);
    }

    private static void taken(Talk talk, String text, int readings, int want) {
        talk.said(text, readings);
        Talk.due("taken of '" + text + "'", talk.room.taken(), want);
    }

    /** Blocks alone, red, small, and no more of them than named. */
    private static Talk blocks(int n) {
        Talk talk = new Talk();
        for (int x = 0; x < n; x++) {
            talk.room.thing(0, 0, 1);
        }
        return talk;
    }

    /** "What NP k means by READING r, as bits; NONE: no such ones, no SAYING at hand". */
    private static void meansEdges() {
        Talk talk = Talk.withFive();
        Talk.due("nothing said", talk.room.means(0, 0), NONE);
        talk.said("which thing on a block in a box", 2);
        Talk.due("the last NP of the last reading", talk.room.means(1, 2), 8);
        Talk.due("a third reading", talk.room.means(2, 0), NONE);
        Talk.due("a fourth NP", talk.room.means(0, 3), NONE);
        for (int odd : ODD) {
            Talk.due("reading " + odd, talk.room.means(odd, 0), NONE);
            Talk.due("NP " + odd, talk.room.means(0, odd), NONE);
        }
        talk.said("drop", 1);
        Talk.due("NP 0 of drop", talk.room.means(0, 0), NONE);
        talk.said("many white thing", 1);
        Talk.due("no things", talk.room.means(0, 0), 0);
        talk.room.done();
        Talk.due("done", talk.room.means(0, 0), NONE);
    }

    /** "thing: all", "as bits": sixteen of them, and none. */
    private static void bitsOfSixteen() {
        Talk talk = blocks(16);
        means(talk, "which thing", 65535);
        Talk.due("which", talk.room.answer(), 65535);
        means(talk, "many block", 65535);
        Talk.due("many", talk.room.answer(), 16);
        talk.stack(15, 14);
        means(talk, "which thing on a thing", 1 << 15);
        means(talk, "which thing under a thing", 1 << 14);
        means(talk, "take that", 1 << 15);
        means(new Talk(), "which thing", 0);
        means(new Talk(), "which red block", 0);
    }

    /** "big: SIZE 5 to 9; small: 1 to 4". */
    private static void bigAndSmall() {
        Talk talk = new Talk();
        for (int size = 1; size <= 9; size++) {
            talk.room.thing(0, 0, size);
        }
        means(talk, "which big thing", 0x1f0);
        means(talk, "which small thing", 0x00f);
        means(talk, "which big small thing", 0);
    }

    /** "red, green, blue, white". */
    private static void colours() {
        Talk talk = new Talk();
        for (int colour = 0; colour < 4; colour++) {
            talk.room.thing(1, colour, 5);
        }
        String[] names = {"red", "green", "blue", "white"};
        for (int colour = 0; colour < 4; colour++) {
            means(talk, "which " + names[colour] + " pyramid", 1 << colour);
            means(talk, "which " + names[colour] + " " + names[colour] + " pyramid", 1 << colour);
            means(talk, "which " + names[colour] + " " + names[(colour + 1) % 4] + " pyramid", 0);
            means(talk, "which " + names[colour] + " block", 0);
        }
    }

    /** "one: .. none: no THINGS". */
    private static void oneOfNothing() {
        Talk talk = Talk.withFive();
        means(talk, "which one", 0);
        Talk.due("done", talk.room.done(), 0);
        means(talk, "which one", 0);
        trouble(talk, "take the one", 1, 0);
        trouble(talk, "take a one", 3, 0);
        means(talk, "which block on a one", 0);
    }

    /** "those of the NOUN of the last N in the last SAYING that was done and had one (not one itself)". */
    private static void oneOfTheLastN() {
        Talk talk = Talk.withFive();
        talk.doneAs("which thing", 0);
        means(talk, "which one", 31);
        talk.doneAs("which red block", 1);
        means(talk, "which one", 19);
        means(talk, "which green one", 2);
        talk.doneAs("is a box on a pyramid", 2);
        means(talk, "which one", 4);
        talk.doneAs("is a box on a one", 3);
        means(talk, "which one", 8);
        talk.doneAs("which one", 4);
        means(talk, "which one", 8);
        talk.doneAs("is a block on a thing", 5);
        talk.stack(1, 0);
        talk.doneAs("is a block on that", 6);
        means(talk, "which one", 19);
        talk.doneAs("foo means pyramid", 7);
        means(talk, "which one", 4);
        talk.doneAs("i own no box", 8);
        means(talk, "which one", 8);
    }

    /** "the last SAYING that was done": not one at hand, nor one asked back, nor one with a fault. */
    private static void oneOfDoneOnly() {
        Talk talk = Talk.withFive();
        talk.doneAs("which box", 0);
        talk.said("which pyramid", 1);
        means(talk, "which one", 8);
        talk.doneAs("take the block", -2);
        means(talk, "which one", 8);
        talk.said("many pyramid pyramid", -1013);
        means(talk, "which one", 8);
        talk.said("is a pyramid on a one", 1);
        Talk.due("its own noun is not it", talk.room.means(0, 1), 8);
    }

    /** "and had one": a SAYING without an N leaves it. */
    private static void oneOfASayingWithout() {
        Talk talk = Talk.withFive();
        talk.doneAs("take the pyramid", 0);
        talk.doneAs("drop", 1);
        means(talk, "which one", 4);
        talk.doneAs("take it", 2);
        means(talk, "which one", 4);
        talk.doneAs("put that down", 3);
        means(talk, "which one", 4);
        talk.room.undo();
        means(talk, "which one", 4);
    }

    /** "one: those of the NOUN", a WORD told being one. */
    private static void oneOfAWordTold() {
        Talk talk = Talk.withFive();
        talk.doneAs("foo means red thing", 0);
        means(talk, "which one", 31);
        talk.doneAs("many big foo", 1);
        means(talk, "which one", 5);
        talk.room.thing(2, 0, 1);
        Talk.due("in this room now", talk.room.means(0, 0), 37);
    }

    /** "a WORD told: what its N means .. in this room now". */
    private static void toldInThisRoomNow() {
        Talk talk = Talk.withFive();
        talk.doneAs("foo means block on a block", 0);
        Talk.due("none at first", talk.room.noun(0), 0);
        talk.said("which foo", 1);
        talk.stack(0, 1);
        Talk.due("means, at hand", talk.room.means(0, 0), 1);
        Talk.due("noun", talk.room.noun(0), 1);
        Talk.due("answer", talk.room.answer(), 1);
        talk.room.undo();
        Talk.due("means, undone", talk.room.means(0, 0), 0);
        Talk.due("trouble, undone", talk.room.trouble(0, 0), 0);
        talk.said("take the foo", 1);
        Talk.due("trouble, none", talk.room.trouble(0, 0), 1);
        talk.room.act(1, 1);
        Talk.due("trouble, one", talk.room.trouble(0, 0), 0);
        talk.stack(4, 0);
        Talk.due("trouble, two", talk.room.trouble(0, 0), 2);
        Talk.due("noun, two", talk.room.noun(0), 17);
    }

    /** "one in it being the NOUN that it was when the WORD was told; none then: no THINGS". */
    private static void toldWithOne() {
        Talk talk = Talk.withFive();
        talk.doneAs("aa means one", 0);
        talk.doneAs("many block", 1);
        Talk.due("none then", talk.room.noun(0), 0);
        talk.doneAs("bb means one", 2);
        talk.doneAs("cc means pyramid on a one", 3);
        talk.doneAs("many box", 4);
        Talk.due("a block then", talk.room.noun(1), 19);
        Talk.due("on no block", talk.room.noun(2), 0);
        talk.stack(2, 4);
        Talk.due("on a block", talk.room.noun(2), 4);
        Talk.due("none then, still", talk.room.noun(0), 0);
        Talk first = Talk.withFive();
        first.doneAs("many block", 0);
        first.doneAs("aa means one", 1);
        first.doneAs("many box", 2);
        Talk.due("the first word told, by one", first.room.noun(0), 19);
    }

    /** "it: what was MENTIONED last; that: what the last EVENT moved", in a WORD told as they are now. */
    private static void toldWithItAndThat() {
        Talk talk = Talk.withFive();
        talk.stack(0, 1);
        talk.doneAs("which green block", 0);
        talk.doneAs("aa means thing on it", 1);
        talk.doneAs("bb means thing under that", 2);
        Talk.due("on it", talk.room.noun(0), 0);
        Talk.due("under that", talk.room.noun(1), 2);
        talk.doneAs("which green block", 3);
        Talk.due("on it, the block being mentioned", talk.room.noun(0), 1);
        talk.stack(2, 0);
        Talk.due("under that, the pyramid being moved", talk.room.noun(1), 1);
        talk.doneAs("which box", 4);
        Talk.due("on it, the box being mentioned", talk.room.noun(0), 0);
        talk.room.undo();
        Talk.due("under that, it being in the hand", talk.room.noun(1), 0);
    }

    /** "by its first READING", whichever is TAKEN. */
    private static void toldByItsFirstReading() {
        Talk talk = Talk.withFive();
        talk.stack(0, 1);
        talk.stack(2, 0);
        taken(talk, "foo means thing on the block on a block", 2, 1);
        Talk.due("trouble of the first", talk.room.trouble(0, 0), 2);
        Talk.due("done by the second", talk.room.done(), 0);
        Talk.due("by the first", talk.room.noun(0), 5);
        Talk.due("by the second it is mentioned", talk.room.mentioned(0), 0);
    }

    /** "a WORD that was TOLD": told by words told, all eight of them. */
    private static void toldByWordsTold() {
        Talk talk = Talk.withFive();
        String[] words = {"aa", "bb", "cc", "dd", "ee", "ff", "gg", "hh"};
        talk.doneAs("aa means red thing", 0);
        for (int k = 1; k < 8; k++) {
            talk.doneAs(words[k] + " means " + (k == 4 ? "small " : "") + words[k - 1], k);
        }
        for (int k = 0; k < 8; k++) {
            Talk.due("noun " + k, talk.room.noun(k), 5);
            means(talk, "which " + words[k], 5);
        }
        talk.room.thing(1, 0, 9);
        Talk.due("a big one, ahead of small", talk.room.noun(3), 37);
        Talk.due("a big one, behind it", talk.room.noun(7), 5);
    }

    /** "for each of whose LINKS there is a THING". */
    private static void linksAllHold() {
        Talk talk = blocks(4);
        talk.stack(1, 0);
        talk.stack(2, 1);
        talk.said("which block on a block under a block", 2);
        Talk.due("both links", talk.room.means(0, 0), 2);
        Talk.due("a link of a link", talk.room.means(1, 0), 6);
        Talk.due("which it is linked to", talk.room.means(1, 1), 3);
        talk.said("which block on a block on a block", 2);
        Talk.due("twice the same link", talk.room.means(0, 0), 6);
        Talk.due("one behind the other", talk.room.means(1, 0), 4);
    }

    /** "on, in, or under (x is under y, if y is on x)": not over others, and no box is under what is in it. */
    private static void linksAreDirect() {
        Talk talk = new Talk();
        talk.room.thing(0, 0, 1);
        talk.room.thing(0, 1, 1);
        talk.room.thing(1, 2, 1);
        talk.room.thing(2, 3, 1);
        talk.room.act(0, 0);
        talk.room.act(3, 3);
        talk.stack(1, 0);
        talk.stack(2, 1);
        means(talk, "which thing on a red block", 2);
        means(talk, "which thing on a green block", 4);
        means(talk, "which thing under a pyramid", 2);
        means(talk, "which thing under a green block", 1);
        means(talk, "which thing in a box", 1);
        means(talk, "which thing on a box", 0);
        means(talk, "which thing under a red block", 0);
        means(talk, "which thing in a block", 0);
        talk.room.act(0, 2);
        means(talk, "which thing under a pyramid", 0);
        means(talk, "which pyramid on a thing", 0);
        means(talk, "which pyramid in a thing", 0);
    }

    /** "it: what was MENTIONED last .. none: no THINGS". */
    private static void itOfNothing() {
        Talk talk = Talk.withFive();
        means(talk, "take it", 0);
        talk.doneAs("many block", 0);
        means(talk, "take it", 0);
        talk.doneAs("many pyramid", 1);
        means(talk, "take it", 4);
        talk.doneAs("many white block", 2);
        means(talk, "take it", 4);
    }

    /** "that: what the last EVENT moved; none: no THINGS". */
    private static void thatOfNothing() {
        Talk talk = Talk.withFive();
        means(talk, "take that", 0);
        talk.room.act(0, 1);
        means(talk, "take that", 2);
        talk.room.undo();
        means(talk, "take that", 0);
        talk.doneAs("put the red block on the green block", 0);
        means(talk, "take that", 1);
        talk.doneAs("put the green block on the blue block", 1);
        means(talk, "take that", 2);
        talk.room.undo();
        talk.room.undo();
        means(talk, "take that", 1);
    }

    /** "1 a the that means none, 2 a the that means more than one": none, one, two, three. */
    private static void theEdges() {
        for (int n = 0; n <= 3; n++) {
            trouble(blocks(n), "take the block", n == 0 ? 1 : n == 1 ? 0 : 2, n == 1 ? NONE : 0);
        }
        trouble(blocks(16), "take the block", 2, 0);
    }

    /** "3 an a that means none". */
    private static void aEdges() {
        for (int n = 0; n <= 3; n++) {
            trouble(blocks(n), "take a block", n == 0 ? 3 : 0, n == 0 ? 0 : NONE);
        }
    }

    /** "4 it, that: none". */
    private static void itAndThatEdges() {
        Talk talk = blocks(1);
        trouble(talk, "take it", 4, 0);
        trouble(talk, "take that", 4, 0);
        trouble(talk, "is a block on it", 4, 1);
        trouble(talk, "put a block on that", 4, 1);
        trouble(talk, "many block on it", 4, 1);
        talk.doneAs("take the block", 0);
        trouble(talk, "take it", 0, NONE);
        trouble(talk, "take that", 0, NONE);
    }

    /** Of the N of many, which, means and own no trouble is named: it may mean none or many. */
    private static void bareNHasNone() {
        Talk talk = blocks(2);
        for (String text : new String[] {"many", "which", "i own", "i own no", "foo means"}) {
            trouble(talk, text + " white thing", 0, NONE);
            trouble(talk, text + " block", 0, NONE);
            trouble(talk, text + " block on the white one", 1, 1);
            trouble(talk, text + " block on the block", 2, 1);
            trouble(talk, text + " block on a pyramid", 3, 1);
            trouble(talk, text + " block under it", 4, 1);
        }
    }

    /** "of the first NP with one". */
    private static void firstNpWithOne() {
        Talk talk = Talk.withFive();
        trouble(talk, "put it on a white block", 4, 0);
        trouble(talk, "put a pyramid on the block", 2, 1);
        trouble(talk, "put the white block on the block", 1, 0);
        trouble(talk, "put a block on a pyramid on a white box", 3, 1);
        trouble(talk, "is a block under a block in the box", 3, 1);
        trouble(talk, "is a block on a block under it", 3, 1);
        trouble(talk, "many block on a block on a block on a block on a block on it", 4, 5);
    }

    /** "else 5: it can't be done". */
    private static void cantBeDoneComesLast() {
        Talk talk = Talk.withFive();
        trouble(talk, "put the box on a white thing", 3, 1);
        trouble(talk, "put the box on it", 4, 1);
        trouble(talk, "take the box under the block", 1, 0);
        trouble(talk, "put the box on the pyramid", 5, NONE);
    }

    /** "what is to be moved .. is a BOX". */
    private static void boxToBeMoved() {
        Talk talk = Talk.withFive();
        trouble(talk, "take the box", 5, NONE);
        trouble(talk, "take a box", 5, NONE);
        trouble(talk, "put the box down", 5, NONE);
        trouble(talk, "put a box on a block", 5, NONE);
        talk.doneAs("many box", 0);
        trouble(talk, "take it", 5, NONE);
        trouble(talk, "put it down", 5, NONE);
    }

    /** "of a: the lowest it means that is no BOX". */
    private static void lowestToBeMoved() {
        Talk talk = new Talk();
        for (int sort : new int[] {2, 2, 1, 0, 1}) {
            talk.room.thing(sort, 0, 1);
        }
        trouble(talk, "take a red thing", 0, NONE);
        Talk.due("the lowest that is no box", talk.room.plan(1), 2);
        trouble(talk, "take a box", 5, NONE);
        trouble(talk, "put a thing on a thing", 0, NONE);
        Talk.due("what is moved", talk.room.plan(1), 2);
        Talk.due("onto what", talk.room.plan(4), 3);
    }

    /** "where .. is not a BLOCK (on), not a BOX (in), is the same THING". */
    private static void whereIsOfNoUse() {
        Talk talk = Talk.withFive();
        trouble(talk, "put the red block on the pyramid", 5, NONE);
        trouble(talk, "put the red block on the box", 5, NONE);
        trouble(talk, "put the red block in the green block", 5, NONE);
        trouble(talk, "put the red block in the pyramid", 5, NONE);
        trouble(talk, "put the red block on the red block", 5, NONE);
        trouble(talk, "put the red block in the red block", 5, NONE);
        trouble(talk, "put the pyramid on a pyramid", 5, NONE);
        trouble(talk, "put the pyramid on a box", 5, NONE);
        trouble(talk, "put the pyramid in a block", 5, NONE);
        trouble(talk, "put the green block on a green block", 5, NONE);
        talk.room.act(0, 2);
        trouble(talk, "put the red block on that", 5, NONE);
        trouble(talk, "put the red block in that", 5, NONE);
        trouble(talk, "put the pyramid on that", 5, NONE);
        trouble(talk, "put the red block on the green block", 0, NONE);
        trouble(talk, "put the red block in the box", 0, NONE);
    }

    /** "or stands, over others, on it". */
    private static void whereStandsOnIt() {
        Talk talk = new Talk();
        for (int colour = 0; colour < 4; colour++) {
            talk.room.thing(0, colour, 1);
        }
        talk.stack(1, 0);
        talk.stack(2, 1);
        trouble(talk, "put the red block on the green block", 5, NONE);
        trouble(talk, "put the red block on the blue block", 5, NONE);
        trouble(talk, "put the green block on the blue block", 5, NONE);
        trouble(talk, "put the blue block on the red block", 0, NONE);
        trouble(talk, "put the blue block on the green block", 0, NONE);
        trouble(talk, "put the green block on the red block", 0, NONE);
        trouble(talk, "put the red block on the white block", 0, NONE);
        trouble(talk, "put the red block down", 0, NONE);
        trouble(talk, "take the red block", 0, NONE);
        Talk tower = blocks(15);
        tower.room.thing(0, 3, 9);
        for (int x = 0; x < 14; x++) {
            tower.stack(x, x == 0 ? 15 : x - 1);
        }
        trouble(tower, "put the white block on a block on a block", 5, NONE);
        trouble(tower, "put the white block on a block", 0, NONE);
        Talk.due("the one beside the tower", tower.room.plan(3 * tower.room.plan(NONE) - 2), 14);
    }

    /** "(of a: the lowest it means that will do)". */
    private static void lowestThatWillDo() {
        Talk talk = new Talk();
        for (int sort : new int[] {1, 0, 2, 0, 0, 2}) {
            talk.room.thing(sort, 0, 1);
        }
        trouble(talk, "put a block on a thing", 0, NONE);
        Talk.due("neither a pyramid, itself nor a box", talk.room.plan(4), 3);
        trouble(talk, "put a pyramid in a thing", 0, NONE);
        Talk.due("the lowest box", talk.room.plan(4), 2);
        talk.stack(3, 1);
        trouble(talk, "put a block on a thing", 0, NONE);
        Talk.due("nor what stands on it", talk.room.plan(3 * talk.room.plan(NONE) - 2), 4);
        trouble(talk, "put a pyramid on a block", 0, NONE);
        Talk.due("one that bears will do", talk.room.plan(3 * talk.room.plan(NONE) - 2), 1);
    }

    /** "of drop: THE HAND is empty". */
    private static void dropEdges() {
        Talk talk = Talk.withFive();
        trouble(talk, "drop", 5, NONE);
        Talk.due("taken", talk.room.taken(), -3);
        talk.room.act(0, 0);
        Talk.due("trouble, the hand being full", talk.room.trouble(0, 0), 0);
        Talk.due("taken, the hand being full", talk.room.taken(), 0);
        talk.room.act(2, NONE);
        Talk.due("trouble, the hand being empty", talk.room.trouble(0, 0), 5);
    }

    /** "TROUBLE of READING r, what 0 which (0: it FITS), 1 of which NP (of 1 to 4; NONE). NONE for others, no SAYING at hand". */
    private static void troubleEdges() {
        Talk talk = Talk.withFive();
        Talk.due("nothing said", talk.room.trouble(0, 0), NONE);
        Talk.due("nothing said", talk.room.trouble(0, 1), NONE);
        talk.said("take a pyramid on the block on it", 2);
        Talk.due("which", talk.room.trouble(1, 0), 3);
        Talk.due("of which NP", talk.room.trouble(1, 1), 0);
        Talk.due("what 2", talk.room.trouble(1, 2), NONE);
        Talk.due("what 5", talk.room.trouble(1, 5), NONE);
        Talk.due("reading 2", talk.room.trouble(2, 0), NONE);
        for (int odd : ODD) {
            Talk.due("what " + odd, talk.room.trouble(0, odd), NONE);
            Talk.due("reading " + odd, talk.room.trouble(odd, 0), NONE);
            Talk.due("reading " + odd, talk.room.trouble(odd, 1), NONE);
        }
        talk.doneAs("many box", 0);
        Talk.due("done", talk.room.trouble(0, 0), NONE);
    }

    /** "TAKEN: the first READING that FITS". */
    private static void takenIsTheFirstThatFits() {
        Talk talk = Talk.withFive();
        talk.room.act(0, 0);
        talk.room.act(3, 3);
        taken(talk, "put the pyramid on a block in a box", 2, 0);
        Talk.due("the second does not fit", talk.room.trouble(1, 0), 1);
        talk.stack(2, 0);
        taken(talk, "put the red thing on a block in a box", 2, 1);
        Talk.due("the first does not fit", talk.room.trouble(0, 0), 2);
        taken(talk, "put the red thing on a block in a white box", 2, -3);
        taken(talk, "put the pyramid down", 1, 0);
    }

    /** "the same THING to be moved and the same PLACE". */
    private static void takenThingAndPlace() {
        Talk talk = blocks(3);
        talk.stack(2, 1);
        taken(talk, "put a block on a block on a block", 2, -2);
        Talk tower = blocks(3);
        tower.room.thing(2, 0, 1);
        tower.stack(1, 0);
        tower.stack(2, 1);
        taken(tower, "put a block under a block on a block in a box", 3, -2);
        taken(tower, "take a block under a block on a block", 2, -2);
        Talk.due("plan", tower.room.plan(NONE), -2);
        Talk.due("done", tower.room.done(), -2);
        Talk other = blocks(3);
        other.stack(0, 2);
        other.stack(1, 0);
        taken(other, "take a block under a block on a block", 2, 0);
        Talk same = blocks(3);
        same.room.thing(1, 0, 1);
        same.stack(3, 2);
        same.stack(0, 1);
        taken(same, "put the pyramid on a block on a block", 2, 0);
        Talk places = blocks(3);
        places.room.thing(1, 0, 1);
        places.stack(3, 2);
        places.stack(1, 0);
        taken(places, "put the pyramid on a block on a block", 2, -2);
    }

    /** "the same answer". */
    private static void takenSameAnswer() {
        Talk talk = Talk.withFive();
        talk.room.act(0, 0);
        talk.room.act(3, 3);
        talk.stack(2, 0);
        taken(talk, "which thing on a block in a box", 2, -2);
        taken(talk, "many thing on a block in a box", 2, -2);
        Talk.due("answer", talk.room.answer(), -2);
        taken(talk, "many white thing on a block in a box", 2, 0);
        Talk.due("answer", talk.room.answer(), 0);
        taken(talk, "is the pyramid on a block in a box", 2, -2);
        Talk.due("answer", talk.room.answer(), -2);
        talk.stack(4, 1);
        taken(talk, "is a block on a block in a box", 2, 0);
        Talk.due("no block is on the one in the box", talk.room.trouble(0, 0), 0);
        Talk.due("no block on a block is in the box", talk.room.trouble(1, 0), 0);
        Talk.due("answer", talk.room.answer(), 0);
        Talk tower = blocks(3);
        tower.stack(1, 0);
        tower.stack(2, 1);
        taken(tower, "is a block on a block on a block", 2, 0);
        Talk.due("answer", tower.room.answer(), 1);
    }

    /** "of own the same THINGS". */
    private static void takenOfOwn() {
        Talk talk = Talk.withFive();
        talk.room.act(0, 0);
        talk.room.act(3, 3);
        talk.stack(2, 0);
        taken(talk, "i own thing on a block in a box", 2, -2);
        Talk.due("done", talk.room.done(), -2);
        taken(talk, "i own no thing on a block in a box", 2, -2);
        taken(talk, "i own white thing on a block in a box", 2, 0);
        Talk.due("done", talk.room.done(), 0);
    }

    /** "(of means: always)": but one must fit. */
    private static void takenOfMeans() {
        Talk talk = Talk.withFive();
        talk.room.act(0, 0);
        talk.room.act(3, 3);
        talk.stack(2, 0);
        taken(talk, "foo means thing on a block in a box", 2, 0);
        taken(talk, "foo means thing on the block in a box", 2, 1);
        taken(talk, "foo means thing on the block", 1, -3);
        Talk.due("done", talk.room.done(), -2);
        Talk.due("words told", talk.room.count(3), 0);
    }

    /** "The READING TAKEN; -2, -3: ASKED BACK; NONE: no SAYING at hand". */
    private static void takenEdges() {
        Talk talk = Talk.withFive();
        Talk.due("nothing said", talk.room.taken(), NONE);
        taken(talk, "take the block", 1, -3);
        talk.said("take", -1004);
        Talk.due("behind a fault", talk.room.taken(), NONE);
        taken(talk, "take the pyramid", 1, 0);
        talk.room.done();
        Talk.due("done", talk.room.taken(), NONE);
        Talk most = blocks(2);
        most.stack(1, 0);
        taken(most, "is a white box" + " on a box".repeat(6), 132, -3);
    }

    /** "whether some THING meant by the NP is on (in, under) some THING meant by the PLACE's NP". */
    private static void answersOfIs() {
        Talk talk = Talk.withFive();
        talk.stack(0, 1);
        talk.room.act(0, 2);
        talk.room.act(3, 3);
        String[] texts = {"is a block on a block", "is the red block on the green block", "is the green block on the red block",
            "is a block under a block", "is the red block under a thing", "is a thing in a box", "is a block in a box",
            "is a thing on a box", "is a box under a thing", "is a box in a box", "is the pyramid in a thing"};
        int[] answers = {1, 1, 0, 1, 0, 1, 0, 0, 0, 0, 1};
        for (int i = 0; i < texts.length; i++) {
            talk.said(texts[i], 1);
            Talk.due("answer of '" + texts[i] + "'", talk.room.answer(), answers[i]);
        }
    }

    /** "many: how many; which: as bits": of none, of all; as the room is now. */
    private static void answersOfManyAndWhich() {
        Talk talk = new Talk();
        talk.said("many thing", 1);
        for (int n = 0; n <= 16; n++) {
            Talk.due("many of " + n, talk.room.answer(), n);
            talk.room.thing(n % 3, 0, 1);
        }
        talk = new Talk();
        talk.said("which thing", 1);
        for (int n = 0; n <= 16; n++) {
            Talk.due("which of " + n, talk.room.answer(), (1 << n) - 1);
            talk.room.thing(n % 3, 0, 1);
        }
    }

    /** "-2: ASKED BACK; NONE: it is not ASKED, no SAYING at hand". */
    private static void answerEdges() {
        Talk talk = Talk.withFive();
        Talk.due("nothing said", talk.room.answer(), NONE);
        for (String text : new String[] {"is it on a block", "many block on it", "which block on the block"}) {
            talk.say(text);
            Talk.due("answer of '" + text + "'", talk.room.answer(), -2);
        }
        String[] others = {"take the pyramid", "take the block", "put a block on a block", "put it down", "drop",
            "foo means block", "foo means block on it", "i own block", "i own block on it", "i own no block"};
        for (String text : others) {
            talk.say(text);
            Talk.due("answer of '" + text + "'", talk.room.answer(), NONE);
        }
        talk.doneAs("many block", 0);
        Talk.due("done", talk.room.answer(), NONE);
    }

    /** "What is MENTIONED k-th last (0: it); NONE: nothing is, no such k". */
    private static void mentionedEdges() {
        Talk talk = Talk.withFive();
        Talk.due("nothing is", talk.room.mentioned(0), NONE);
        talk.said("many pyramid", 1);
        Talk.due("said, not done", talk.room.mentioned(0), NONE);
        talk.room.done();
        Talk.due("done", talk.room.mentioned(0), 2);
        Talk.due("one more", talk.room.mentioned(1), NONE);
        for (int k : new int[] {-1, 2, 420, Integer.MIN_VALUE, Integer.MAX_VALUE}) {
            Talk.due("mentioned " + k, talk.room.mentioned(k), NONE);
        }
        talk.doneAs("many block", 1);
        talk.doneAs("many white block", 2);
        Talk.due("those that mean many or none are not", talk.room.mentioned(0), 2);
        Talk.due("nor twice", talk.room.mentioned(1), NONE);
        talk.doneAs("take the block", -2);
        Talk.due("nor what is asked back", talk.room.mentioned(1), NONE);
    }

    /** "of its NPS .. each that means just one THING", by the READING TAKEN. */
    private static void mentionedByTheReadingTaken() {
        Talk talk = Talk.withFive();
        talk.room.act(0, 0);
        talk.room.act(3, 3);
        taken(talk, "which white thing on a block in a box", 2, 0);
        Talk.due("a block, by the first", talk.room.means(0, 1), 19);
        Talk.due("a block, by the second", talk.room.means(1, 1), 1);
        talk.room.done();
        Talk.due("the box alone", talk.room.mentioned(0), 3);
        Talk.due("no block", talk.room.mentioned(1), NONE);
    }

    /** "by their places .. (the last one is it)"; "(A THING counts as often as it was.)" */
    private static void mentionedAsOften() {
        Talk talk = Talk.withFive();
        talk.doneAs("put the red block on the green block", 0);
        talk.doneAs("is it under the red block", 1);
        talk.doneAs("put it on it", -2);
        talk.doneAs("is it on it", 2);
        int[] last = {0, 0, 0, 1, 1, 0, NONE};
        for (int k = 0; k < last.length; k++) {
            Talk.due("mentioned " + k, talk.room.mentioned(k), last[k]);
        }
        talk.room.undo();
        talk.room.undo();
        Talk.due("acts undone leave it", talk.room.mentioned(5), 0);
    }

    /** "What the NOUN told as the k-th means now, as bits; NONE: no such one". */
    private static void nounEdges() {
        Talk talk = Talk.withFive();
        Talk.due("none told", talk.room.noun(0), NONE);
        talk.said("foo means block", 1);
        Talk.due("said, not done", talk.room.noun(0), NONE);
        talk.room.done();
        Talk.due("told", talk.room.noun(0), 19);
        for (int k : new int[] {-1, 1, 7, 8, Integer.MIN_VALUE, Integer.MAX_VALUE}) {
            Talk.due("noun " + k, talk.room.noun(k), NONE);
        }
        talk.room.thing(0, 0, 1);
        Talk.due("now", talk.room.noun(0), 51);
        talk.doneAs("bar means white foo", 1);
        Talk.due("no things", talk.room.noun(1), 0);
    }
}
