/** A room under test: says texts, and counts and prints the answers that are not as due. */
final class Talk {
    private static int wrong;
    final RoomTalk room = new RoomTalk();

    static void due(String call, int got, int want) {
        if (got != want) {
            wrong++;
            System.out.println(call + " answered " + got + ", due is " + want);
        }
    }

    static void finish() {
        System.out.println(wrong == 0 ? "all answers are as due" : wrong + " answers are not as due");
        if (wrong != 0) {
            System.exit(1);
        }
    }

    /** Red small block 0, green big block 1, red small pyramid 2, blue big box 3, blue big block 4. */
    static Talk withFive() {
        Talk talk = new Talk();
        talk.room.thing(0, 0, 3);
        talk.room.thing(0, 1, 6);
        talk.room.thing(1, 0, 2);
        talk.room.thing(2, 2, 9);
        talk.room.thing(0, 2, 5);
        return talk;
    }

    void feedBytes(byte[] bytes) {
        for (int at = 0; at < bytes.length; at += 20) {
            room.feed(number(bytes, at), number(bytes, at + 4), number(bytes, at + 8),
                    number(bytes, at + 12), number(bytes, at + 16));
        }
    }

    private static int number(byte[] bytes, int at) {
        int number = 0;
        for (int i = at; i < at + 4; i++) {
            number = number << 8 | (i < bytes.length ? bytes[i] & 255 : 0);
        }
        return number;
    }

    int say(String text) {
        feedBytes(text.getBytes(java.nio.charset.StandardCharsets.ISO_8859_1));
        return room.say(text.length());
    }

    void said(String text, int want) {
        due("'" + text + "'", say(text), want);
    }

    void doneAs(String text, int want) {
        say(text);
        due("done of '" + text + "'", room.done(), want);
    }

    void stack(int thing, int block) {
        room.act(0, thing);
        room.act(1, block);
    }
}
