import java.nio.charset.StandardCharsets;

/** All small texts, not some by chance: what say answers, and every reading, held against the model's. */
public final class SmallTextsTest {
    private static final char[] SIGNS = {'a', 'i', 't', 'x', ' ', '9'};
    private static final int MOST_SIGNS = 5;
    private static final String[] WORDS = ("put take drop is many means i own no the it red box one on under down ab foo x").split(" ");
    private static final int MOST_WORDS = 8;

    private static int asked;

    public static void main(String[] args) {
        spell("");
        speak("", 0);
        Talk.due("texts asked", asked, 50250);
        Talk.finish();
    }

    private static void spell(String text) {
        if (!text.isEmpty()) {
            hear(text);
        }
        for (int i = 0; i < SIGNS.length && text.length() < MOST_SIGNS; i++) {
            spell(text + SIGNS[i]);
        }
    }

    /** Goes on only where the fault, if there is one, might still be mended by what comes behind. */
    private static void speak(String text, int words) {
        for (int i = 0; i < WORDS.length && words < MOST_WORDS; i++) {
            String more = words == 0 ? WORDS[i] : text + " " + WORDS[i];
            int answer = hear(more);
            if (words == 0 || answer > 0 || answer == -1000 - more.length()) {
                speak(more, words + 1);
            }
        }
    }

    private static int hear(String text) {
        asked++;
        RoomTalk room = new RoomTalk();
        Model model = new Model();
        say(room, model, "ab means box");
        room.done();
        model.done();
        int answer = say(room, model, text);
        for (int what = 6; what <= 10; what++) {
            Talk.due("count " + what + " of '" + text + "'", room.count(what), model.count(what));
        }
        for (int r = 0; r < model.count(10); r++) {
            for (int i = 0; i < model.count(9); i++) {
                Talk.due("reading " + r + " " + i + " of '" + text + "'", room.reading(r, i), model.reading(r, i));
            }
        }
        return answer;
    }

    private static int say(RoomTalk room, Model model, String text) {
        byte[] bytes = text.getBytes(StandardCharsets.ISO_8859_1);
        int[] numbers = new int[(bytes.length + 19) / 20 * 5];
        for (int i = 0; i < bytes.length; i++) {
            numbers[i / 4] |= (bytes[i] & 255) << 24 - 8 * (i % 4);
        }
        for (int i = 0; i < numbers.length; i += 5) {
            room.feed(numbers[i], numbers[i + 1], numbers[i + 2], numbers[i + 3], numbers[i + 4]);
            model.feed(numbers[i], numbers[i + 1], numbers[i + 2], numbers[i + 3], numbers[i + 4]);
        }
        int answer = room.say(text.length());
        Talk.due("say '" + text + "'", answer, model.say(text.length()));
        return answer;
    }
}
