/** Part 2 of the terms and promises 9 to 11 and 24: a test for each sentence that names a boundary, which stands above it. */
public final class HearingEdgesTest {
    private static final int NONE = RoomTalk.NONE;
    private static final String[] KNOWN = ("thing block pyramid box one red green blue white big small put take drop is many "
            + "which means i own no the a it that on in under down").split(" ");

    public static void main(String[] args) {
        feedTwoHundred();
        feedBehind();
        feedHighestFirst();
        sayOne();
        sayHundred();
        sayNoSuch();
        sayTooMany();
        sayEmptiesTheTape();
        faultLeavesNone();
        refusedLeavesTheSaying();
        nextSayingComesInstead();
        blankAtTheBeginning();
        blankBehindABlank();
        blankAtTheEnd();
        bytesOfNoLetter();
        byteAheadOfItsWord();
        wordAheadOfABlank();
        unknownAheadOfOrder();
        seventhAheadOfOrder();
        knownAheadOfOrder();
        seventhOnward();
        lengthOfW();
        everyKnownWord();
        newOnlyAheadOfMeans();
        toldIsKnown();
        nothingGoesOn();
        endsTooSoon();
        underOfIsAlone();
        downOfPutAlone();
        onePlace();
        numbersOfAdjectives();
        numbersOfLinks();
        nothingCrosses();
        readingEdges();
        checkNone();
        checkAll();
        checkLacking();
        checkNotSo();
        checkNotSoMany();
        checkWholeNumbers();
        Talk.finish();
    }

    private static String times(int n, String text) {
        return text.repeat(n);
    }

    private static void hears(String text, int want) {
        Talk.withFive().said(text, want);
    }

    /** "NONE if that would be more than 200". */
    private static void feedTwoHundred() {
        Talk talk = new Talk();
        for (int i = 1; i <= 10; i++) {
            Talk.due("feed " + i, talk.room.feed(0, 0, 0, 0, 0), 20 * i);
        }
        Talk.due("an eleventh", talk.room.feed(0, 0, 0, 0, 0), NONE);
        Talk.due("a twelfth", talk.room.feed(1, 2, 3, 4, 5), NONE);
        Talk.due("the tape stays full", talk.room.count(6), 200);
        Talk.due("zeroes are on it", talk.room.say(100), -5000);
        Talk.due("once empty it is fed again", talk.room.feed(0, 0, 0, 0, 0), 20);
    }

    /** "Twenty bytes come behind the tape". */
    private static void feedBehind() {
        Talk talk = new Talk();
        talk.feedBytes("many thing on a thin".getBytes(java.nio.charset.StandardCharsets.ISO_8859_1));
        Talk.due("how many", talk.room.count(6), 20);
        Talk.due("the second feed", talk.room.feed('g' << 24, 0, 0, 0, 0), 40);
        Talk.due("both are said", talk.room.say(21), 1);
        for (int i = 0; i < 9; i++) {
            talk.room.feed(0, 0, 0, 0, 0);
        }
        talk.room.feed(1, 2, 3, 4, 5);
        Talk.due("the tenth feed comes last", talk.room.check(25), 0);
    }

    /** "the highest of each int first". */
    private static void feedHighestFirst() {
        RoomTalk room = new RoomTalk();
        room.feed('d' << 24 | 'r' << 16 | 'o' << 8 | 'p', 0, 0, 0, 0);
        Talk.due("drop", room.say(4), 1);
        room.feed('p' << 24 | 'o' << 16 | 'r' << 8 | 'd', 0, 0, 0, 0);
        Talk.due("the other way round", room.say(4), -2000);
        room.feed(0x64000000 | 'r' << 16 | 'o' << 8 | 'p', -1, -1, -1, -1);
        Talk.due("a byte of 255 behind it", room.say(5), -5004);
    }

    /** "by the first n bytes of the tape (1 to 100 ..)": 1. */
    private static void sayOne() {
        hears("i", -1001);
        hears("a", -1000);
        hears("x", -2000);
        hears(" ", -5000);
        hears("0", -5000);
    }

    /** "A SAYING is a TEXT of at most 100 bytes". */
    private static void sayHundred() {
        String most = "many" + times(18, " blue") + " thing";
        Talk.due("a hundred bytes", most.length(), 100);
        hears(most, 1);
        hears("many" + times(19, " blue") + "x", -2095);
        hears("many" + times(19, " blue") + " ", -5099);
        hears("many" + times(18, " blue") + " small", -1100);
        Talk talk = Talk.withFive();
        Talk.due("101 bytes", talk.say("many " + times(18, " blue") + " thing"), NONE);
        Talk.due("its tape stays", talk.room.count(6), 120);
    }

    /** "NONE: no such n .. (the tape stays)". */
    private static void sayNoSuch() {
        RoomTalk room = new RoomTalk();
        for (int i = 0; i < 10; i++) {
            room.feed(0x64726f70, 0, 0, 0, 0);
        }
        for (int n : new int[] {0, -1, -100, 101, 200, 201, Integer.MIN_VALUE, Integer.MAX_VALUE}) {
            Talk.due("say " + n, room.say(n), NONE);
            Talk.due("the tape behind say " + n, room.count(6), 200);
        }
        Talk.due("say 4", room.say(4), 1);
    }

    /** "it has not so many (the tape stays)". */
    private static void sayTooMany() {
        RoomTalk room = new RoomTalk();
        Talk.due("say of an empty tape", room.say(1), NONE);
        room.feed(0x64726f70, 0, 0, 0, 0);
        Talk.due("say 21 of 20", room.say(21), NONE);
        Talk.due("say 100 of 20", room.say(100), NONE);
        Talk.due("the tape stays", room.count(6), 20);
        Talk.due("say 20 of 20", room.say(20), -5004);
        Talk.due("the tape is empty", room.count(6), 0);
    }

    /** "the first n bytes of the tape (..; empty then)". */
    private static void sayEmptiesTheTape() {
        Talk talk = new Talk();
        for (int i = 0; i < 10; i++) {
            talk.room.feed(0x64726f70, 0x64726f70, 0x64726f70, 0x64726f70, 0x64726f70);
        }
        Talk.due("say 4 of 200", talk.room.say(4), 1);
        Talk.due("the rest is gone", talk.room.count(6), 0);
        Talk.due("none is left to say", talk.room.say(4), NONE);
        talk.said("foo", -2000);
        Talk.due("gone behind a fault too", talk.room.count(6), 0);
    }

    /** "a FAULT: .. (none is at hand then)". */
    private static void faultLeavesNone() {
        for (String text : new String[] {"take", "take foo", "box means box", "drop ", "many one" + times(7, " on it")}) {
            Talk talk = Talk.withFive();
            talk.said("take the pyramid", 1);
            Talk.due("'" + text + "' is a fault", talk.say(text) <= -1000 ? 1 : 0, 1);
            Talk.due("at hand behind '" + text + "'", talk.room.count(7), 0);
            Talk.due("taken behind '" + text + "'", talk.room.taken(), NONE);
            Talk.due("done behind '" + text + "'", talk.room.done(), NONE);
            Talk.due("reading behind '" + text + "'", talk.room.reading(0, 0), NONE);
            Talk.due("means behind '" + text + "'", talk.room.means(0, 0), NONE);
            Talk.due("trouble behind '" + text + "'", talk.room.trouble(0, 0), NONE);
            Talk.due("judge behind '" + text + "'", talk.room.judge(0), NONE);
            for (int what = 8; what <= 10; what++) {
                Talk.due("count " + what + " behind '" + text + "'", talk.room.count(what), NONE);
            }
        }
    }

    /** "A call that is refused (NONE, false) changes nothing". */
    private static void refusedLeavesTheSaying() {
        Talk talk = Talk.withFive();
        talk.said("take the pyramid", 1);
        Talk.due("say of an empty tape", talk.room.say(4), NONE);
        Talk.due("at hand still", talk.room.count(7), 1);
        Talk.due("taken still", talk.room.taken(), 0);
        Talk.due("done still", talk.room.done(), 0);
        Talk.due("where", talk.room.where(2), 17);
    }

    /** "A SAYING .. is at hand": the one said last, whatever was at hand. */
    private static void nextSayingComesInstead() {
        Talk talk = Talk.withFive();
        talk.said("put the pyramid on the red block in the box", 2);
        talk.said("i own no box", 1);
        Talk.due("NPS", talk.room.count(8), 1);
        Talk.due("ONWARDS", talk.room.count(9), 0);
        Talk.due("reading", talk.room.reading(0, 0), NONE);
        talk.said("i own block", 1);
        Talk.due("done", talk.room.done(), 0);
        Talk.due("the no of the one ahead is forgotten", talk.room.owned(0), 1);
        Talk.due("and so is its box", talk.room.owned(3), 2);
        talk.said("put the pyramid down", 1);
        talk.said("put the pyramid on the red block", 1);
        Talk.due("the down of the one ahead is forgotten", talk.room.plan(NONE), 2);
    }

    /** "5 a byte that can't stand there (.. a blank at the beginning ..), at it". */
    private static void blankAtTheBeginning() {
        hears(" drop", -5000);
        hears("  drop", -5000);
        hears(" foo", -5000);
        hears("  ", -5000);
    }

    /** "(.. behind a blank ..)". */
    private static void blankBehindABlank() {
        hears("take  it", -5005);
        hears("take   it", -5005);
        hears("take it  ", -5008);
        hears("put the red  block down", -5012);
        hears("foo means  box", -5010);
    }

    /** "(.. or at the end)". */
    private static void blankAtTheEnd() {
        hears("drop ", -5004);
        hears("put ", -5003);
        hears("i own no ", -5008);
        hears("foo means ", -5009);
        hears("foo means box ", -5013);
    }

    /** "(none of a to z ..)". */
    private static void bytesOfNoLetter() {
        for (int sign = 0; sign < 256; sign++) {
            boolean isLetter = sign >= 'a' && sign <= 'z';
            int want = isLetter ? -2000 : sign == ' ' ? -1005 : -5004;
            hears("drop" + (char) sign + "drop", want);
            hears((char) sign + "rop", sign == 'd' ? 1 : isLetter ? -2000 : -5000);
        }
        hears("take it" + (char) 0, -5007);
    }

    /** "A WORD is asked when it ends: 5 ahead of it". */
    private static void byteAheadOfItsWord() {
        hears("foo9", -5003);
        hears("take foo9", -5008);
        hears("take take9", -5009);
        hears("box9 means box", -5003);
        hears("many one" + times(6, " on it") + " on9", -5000 - 8 - 36 - 3);
        hears("take foo9 bar", -5008);
    }

    /** "FAULTS, the first from the left": a word that has ended stands ahead of what comes behind it. */
    private static void wordAheadOfABlank() {
        hears("foo  ", -2000);
        hears("foo 9", -2000);
        hears("take foo  it", -2005);
        hears("take take ", -1005);
        hears("take take 9", -1005);
        hears("box means 9", -3000);
        hears("ng ", -2000);
        hears("many one" + times(6, " on it") + " on 9", -4000 - 8 - 36 - 1);
    }

    /** "then 2 .. 1": a word not known, where none could go on. */
    private static void unknownAheadOfOrder() {
        hears("drop foo", -2005);
        hears("take it foo", -2008);
        hears("put it down foo", -2012);
        hears("i foo", -2002);
        hears("foo means box foo", -2014);
        hears("take foo foo", -2005);
    }

    /** "then 4 .. 1": a seventh ONWARD, where none could go on. */
    private static void seventhAheadOfOrder() {
        String six = "many one" + times(5, " on it") + " on";
        hears(six + " on", -4000 - six.length() - 1);
        hears(six + " foo", -2000 - six.length() - 1);
        hears(six + " the in", -4000 - six.length() - 5);
        hears(six + " it it", -1000 - six.length() - 4);
    }

    /** "3, 1": a W that is known, where no SAYING begins so. */
    private static void knownAheadOfOrder() {
        hears("box means", -3000);
        hears("box means means", -3000);
        hears("box means foo", -3000);
        hears("box meant", -1000);
        hears("box", -1000);
    }

    /** "4 a seventh ONWARD". */
    private static void seventhOnward() {
        for (String word : new String[] {"on", "in", "under"}) {
            String many = "which box" + times(6, " " + word + " a box");
            hears(many, 132);
            hears(many + " " + word, -4000 - many.length() - 1);
            String single = "which thing" + times(6, " " + word + " it");
            hears(single, 1);
            hears(single + " on it", -4000 - single.length() - 1);
            hears(single + " in it", -4000 - single.length() - 1);
            hears(single + " under it", -4000 - single.length() - 1);
        }
        hears("put a box" + times(6, " on a box") + " down", 132);
        hears("put a box" + times(6, " on a box") + " on a box", -4000 - 9 - 54 - 1);
    }

    /** "W: a WORD of two to ten letters". */
    private static void lengthOfW() {
        hears("x means box", -2000);
        hears("xy means box", 1);
        hears("abcdefghij means box", 1);
        hears("abcdefghijk means box", -2000);
        hears(times(94, "x") + " means", -2000);
        Talk talk = Talk.withFive();
        talk.doneAs("abcdefghij means box", 0);
        talk.doneAs("abcdefghix means pyramid", 1);
        talk.doneAs("xbcdefghij means block", 2);
        talk.doneAs("ab means red thing", 3);
        int[] sets = {8, 4, 19, 5};
        String[] words = {"abcdefghij", "abcdefghix", "xbcdefghij", "ab"};
        for (int k = 0; k < 4; k++) {
            talk.said("which " + words[k], 1);
            Talk.due("which " + words[k], talk.room.answer(), sets[k]);
        }
        talk.said("which abcdefghi", -2006);
        talk.said("which abcdefghijk", -2006);
        talk.said("which a", -1006);
        talk.said("which b", -2006);
    }

    /** "that is none of all these (nor put, take, ..)"; "3 a W that is known". */
    private static void everyKnownWord() {
        for (String word : KNOWN) {
            hears(word + " means box", -3000);
            hears(word + " means", -3000);
            hears(word + "x means box", word.length() < 10 ? 1 : -2000);
        }
    }

    /** "a W of two to ten letters may be new: it is the first WORD, the second one being means". */
    private static void newOnlyAheadOfMeans() {
        hears("foo", -2000);
        hears("foo box", -2000);
        hears("foo mean box", -2000);
        hears("foo meanss box", -2000);
        hears("foo box means", -2000);
        hears("many foo means box", -2005);
        hears("drop foo means box", -2005);
        hears("foo foo means box", -2000);
        hears("foo means bar means box", -2010);
        hears("foo means", -1009);
        hears("foo means box", 1);
    }

    /** "a WORD that is not known (TOLD ones are ..)". */
    private static void toldIsKnown() {
        Talk talk = Talk.withFive();
        talk.said("many foo", -2005);
        talk.said("foo means block", 1);
        talk.said("many foo", -2005);
        talk.doneAs("foo means block", 0);
        talk.said("many foo", 1);
        talk.said("foo means block", -3000);
        talk.said("foo", -1000);
        talk.said("many boo", -2005);
        talk.said("many fob", -2005);
        talk.said("many fo", -2005);
        talk.said("many fooo", -2005);
    }

    /** "1 no SAYING can go on so", at the word's first byte. */
    private static void nothingGoesOn() {
        for (String word : KNOWN) {
            if (word.equals("means")) {
                continue;
            }
            boolean begins = " put take drop is many which i ".contains(" " + word + " ");
            hears(word, word.equals("drop") ? 1 : begins ? -1000 - word.length() : -1000);
            hears("drop " + word, -1005);
            boolean isNp = " it that ".contains(" " + word + " ");
            boolean beginsNp = " the a ".contains(" " + word + " ");
            hears("take " + word, isNp ? 1 : beginsNp ? -1005 - word.length() : -1005);
            boolean isNoun = " thing block pyramid box one ".contains(" " + word + " ");
            boolean looks = " red green blue white big small ".contains(" " + word + " ");
            hears("many " + word, isNoun ? 1 : looks ? -1005 - word.length() : -1005);
            hears("i own " + word, isNoun ? 1 : looks || word.equals("no") ? -1006 - word.length() : -1006);
            hears("i own no " + word, isNoun ? 1 : looks ? -1009 - word.length() : -1009);
            boolean onward = " on in under ".contains(" " + word + " ");
            hears("many box " + word, onward ? -1009 - word.length() : -1009);
            hears("take it " + word, -1008);
            boolean place = " on in ".contains(" " + word + " ");
            hears("put it " + word, word.equals("down") ? 1 : place ? -1007 - word.length() : -1007);
            hears("is it " + word, onward ? -1006 - word.length() : -1006);
            hears("put it down " + word, -1012);
            hears("i " + word, word.equals("own") ? -1005 : -1002);
        }
        hears("means", -1000);
        hears("many box means", -1009);
        hears("take it means", -1008);
        hears("i own means", -1006);
        hears("foo means means", -1010);
    }

    /** "(at the end: there)". */
    private static void endsTooSoon() {
        hears("put", -1003);
        hears("put it", -1006);
        hears("put a block", -1011);
        hears("put a block on", -1014);
        hears("put a block under a box", -1023);
        hears("take", -1004);
        hears("take the", -1008);
        hears("take the red", -1012);
        hears("take a box on", -1013);
        hears("is", -1002);
        hears("is it", -1005);
        hears("is a box", -1008);
        hears("many", -1004);
        hears("many red", -1008);
        hears("which", -1005);
        hears("i", -1001);
        hears("i own", -1005);
        hears("i own no", -1008);
        hears("foo means", -1009);
        hears("foo means red", -1013);
    }

    /** "under NP (of is alone)". */
    private static void underOfIsAlone() {
        hears("is it under it", 1);
        hears("put it under it", -1007);
        hears("put a box under it", -1018);
        hears("put a box under it under it", -1027);
        hears("put a box on it under it", -1024);
        hears("put a box under it on it", 1);
        hears("put a box under it down", 1);
        hears("take it under it", -1008);
    }

    /** "down (of put alone)". */
    private static void downOfPutAlone() {
        hears("put it down", 1);
        hears("take it down", -1008);
        hears("drop down", -1005);
        hears("is it down", -1006);
        hears("is a box on it down", -1015);
        hears("many box down", -1009);
        hears("which box down", -1010);
        hears("foo means box down", -1014);
        hears("i own box down", -1010);
        hears("put down", -1004);
        hears("put it down down", -1012);
        hears("put it down on it", -1012);
    }

    /** "put NP PLACE", "is NP PLACE": one PLACE. */
    private static void onePlace() {
        hears("put it on it on it", -1013);
        hears("put it on it down", -1013);
        hears("is it on it on it", -1012);
        hears("is it on a box on it", 1);
        hears("put it on a box down", -1016);
        hears("put a box on a box down", 1);
    }

    /** "any number of ADJECTIVES": none, one, many, the same twice. */
    private static void numbersOfAdjectives() {
        hears("many thing", 1);
        hears("many red thing", 1);
        hears("many red red thing", 1);
        hears("many red green blue white big small thing", 1);
        hears("many thing red", -1011);
        hears("take the big it", -1013);
        Talk talk = Talk.withFive();
        talk.said("which red red small thing", 1);
        Talk.due("twice the same", talk.room.answer(), 5);
        talk.said("which big small thing", 1);
        Talk.due("big and small", talk.room.answer(), 0);
    }

    /** "any number of LINKS": none to six. */
    private static void numbersOfLinks() {
        int[] readings = {1, 1, 2, 5, 14, 42, 132};
        for (int n = 0; n <= 6; n++) {
            hears("many thing" + times(n, " on a thing"), readings[n]);
            hears("take a thing" + times(n, " in a thing"), readings[n]);
            hears("foo means thing" + times(n, " on a box"), readings[n]);
            hears("i own no thing" + times(n, " on a thing"), readings[n]);
            hears("put a box" + times(n, " on a box") + " down", readings[n]);
            if (n > 0) {
                hears("put a box" + times(n, " on a box"), readings[n]);
                hears("is a box" + times(n, " in a box"), readings[n]);
            }
        }
    }

    /** "nothing crosses: what belongs to an NP stands behind it, and behind all that belongs to NPS within it". */
    private static void nothingCrosses() {
        Talk talk = Talk.withFive();
        talk.said("is a box on a box in a box under a box", 5);
        int[][] owners = {{0, 2, 2}, {0, 2, 3}, {1, 0, 3}, {1, 1, 0}, {1, 2, 0}};
        for (int r = 0; r < 5; r++) {
            for (int i = 0; i < 3; i++) {
                Talk.due("is: reading " + r + " " + i, talk.room.reading(r, i), owners[r][i]);
            }
        }
        int[][] others = {{1, 0, 3}, {1, 1, 0}, {NONE, NONE, NONE}};
        talk.said("put a box on it in a box on a box", 2);
        for (int r = 0; r < 3; r++) {
            for (int i = 0; i < 3; i++) {
                Talk.due("put: reading " + r + " " + i, talk.room.reading(r, i), others[r][i]);
            }
        }
    }

    /** "To what ONWARD i of READING r belongs; NONE: no such ones, no SAYING at hand". */
    private static void readingEdges() {
        Talk talk = Talk.withFive();
        Talk.due("nothing said", talk.room.reading(0, 0), NONE);
        talk.said("many box", 1);
        Talk.due("no onwards", talk.room.reading(0, 0), NONE);
        talk.said("many box on a box on it", 2);
        Talk.due("first of the first", talk.room.reading(0, 0), 1);
        Talk.due("last of the last", talk.room.reading(1, 1), 2);
        for (int odd : new int[] {-1, 2, 6, 7, 131, 264, Integer.MIN_VALUE, Integer.MAX_VALUE}) {
            Talk.due("reading " + odd, talk.room.reading(odd, 0), NONE);
            Talk.due("onward " + odd, talk.room.reading(0, odd), NONE);
        }
        talk.said("drop", 1);
        Talk.due("of drop", talk.room.reading(0, 0), NONE);
        talk.room.thing(0, 0, 1);
        talk.say("many box on a block");
        Talk.due("at hand", talk.room.reading(0, 0), 1);
        talk.room.done();
        Talk.due("done", talk.room.reading(0, 0), NONE);
    }

    private static int check(RoomTalk room, int n, int... numbers) {
        int[] padded = java.util.Arrays.copyOf(numbers, (numbers.length + 4) / 5 * 5);
        for (int i = 0; i < padded.length; i += 5) {
            room.feed(padded[i], padded[i + 1], padded[i + 2], padded[i + 3], padded[i + 4]);
        }
        return room.check(n);
    }

    private static int[] placesOf(RoomTalk room) {
        int[] numbers = new int[2 * room.count(0)];
        for (int x = 0; x < room.count(0); x++) {
            numbers[2 * x] = x;
            numbers[2 * x + 1] = room.where(x);
        }
        return numbers;
    }

    /** "all, by numbers: right": no THINGS, no numbers. */
    private static void checkNone() {
        RoomTalk room = new RoomTalk();
        Talk.due("nothing of nothing", room.check(0), NONE);
        room.feed(0, 16, 0, 0, 0);
        Talk.due("something of nothing", room.check(1), 0);
        room.feed(0, 16, 0, 0, 0);
        Talk.due("nothing of nothing, a tape fed", room.check(0), NONE);
        Talk.due("the tape is empty then", room.count(6), 0);
    }

    /** "NONE: right": sixteen THINGS, on, in, on THE TABLE, in THE HAND. */
    private static void checkAll() {
        RoomTalk room = new RoomTalk();
        for (int x = 0; x < 16; x++) {
            room.thing(x == 15 ? 2 : 0, 0, 1);
        }
        room.act(0, 0);
        room.act(1, 14);
        room.act(0, 1);
        room.act(3, 15);
        room.act(0, 2);
        int[] right = placesOf(room);
        Talk.due("all sixteen", check(room, 16, right), NONE);
        for (int i = 0; i < 32; i++) {
            int[] wrong = right.clone();
            wrong[i]++;
            Talk.due("number " + i + " is not so", check(room, 16, wrong), i);
        }
        Talk.due("seventeen twos", check(room, 17, java.util.Arrays.copyOf(right, 34)), 32);
        Talk.due("fifteen twos", check(room, 15, right), 30);
        Talk.due("twenty-five twos", check(room, 25, java.util.Arrays.copyOf(right, 50)), 32);
    }

    /** "2 n: some are lacking". */
    private static void checkLacking() {
        RoomTalk room = Talk.withFive().room;
        int[] right = placesOf(room);
        for (int n = 0; n < 5; n++) {
            Talk.due("check " + n + " of five", check(room, n, right), 2 * n);
            Talk.due("the tape is empty", room.count(6), 0);
        }
        Talk.due("check 5 of five", check(room, 5, right), NONE);
    }

    /** "the place of the first number that is not so". */
    private static void checkNotSo() {
        RoomTalk room = Talk.withFive().room;
        Talk.due("both of a two", check(room, 5, 1, 0, 1, 16, 2, 16, 3, 16, 4, 16), 0);
        Talk.due("where, and a later one", check(room, 5, 0, 17, 9, 16, 2, 16, 3, 16, 4, 16), 1);
        Talk.due("not by numbers", check(room, 5, 0, 16, 2, 16, 1, 16, 3, 16, 4, 16), 2);
        Talk.due("the same twice", check(room, 5, 0, 16, 0, 16, 1, 16, 2, 16, 3, 16), 2);
        Talk.due("the last one", check(room, 5, 0, 16, 1, 16, 2, 16, 3, 16, 4, 17), 9);
        Talk.due("wrong ahead of lacking", check(room, 1, 0, 17), 1);
        Talk.due("the tape is empty", room.count(6), 0);
    }

    /** "-2: it has not so many (the tape stays)". */
    private static void checkNotSoMany() {
        RoomTalk room = Talk.withFive().room;
        Talk.due("one of an empty tape", room.check(1), -2);
        for (int fed = 1; fed <= 10; fed++) {
            room.feed(0, 16, 1, 16, 2);
            int most = 20 * fed / 8;
            Talk.due("one more than " + 20 * fed + " bytes have", room.check(most + 1), -2);
            Talk.due("the tape stays", room.count(6), 20 * fed);
        }
        for (int n : new int[] {-1, 26, 200, Integer.MIN_VALUE, Integer.MAX_VALUE, 0x20000000, 0x20000001, 0x40000000}) {
            Talk.due("check " + n, room.check(n), -2);
            Talk.due("the tape stays behind check " + n, room.count(6), 200);
        }
        Talk.due("as many as it has", room.check(25), 5);
        Talk.due("the tape is empty", room.count(6), 0);
    }

    /** "numbers of the tape (four bytes each)": each of them counts. */
    private static void checkWholeNumbers() {
        RoomTalk room = new RoomTalk();
        room.thing(0, 0, 1);
        for (int bit = 0; bit < 32; bit++) {
            Talk.due("bit " + bit + " of the first", check(room, 1, 1 << bit, 16), 0);
            Talk.due("bit " + bit + " of the second", check(room, 1, 0, 16 ^ 1 << bit), 1);
        }
        Talk.due("right", check(room, 1, 0, 16), NONE);
    }
}
