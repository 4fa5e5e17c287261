import java.nio.charset.StandardCharsets;
import java.util.Random;

/** Runs of calls by chance (the same ones each time), each answer held against the model's. */
public final class ModelTest {
    // An object has 512 calls; a step, of which the last may begin just ahead of this number, makes some forty.
    private static final int CALLS = 450;
    private static final String[] ADJECTIVES = {"red", "green", "blue", "white", "big", "small"};
    private static final String[] ALL_WORDS = ("thing block pyramid box one red green blue white big small put take drop "
            + "is many which means i own no the a it that on in under down foo bar baz steeple x toolongword").split(" ");
    private static final String[] NOUNS = {"thing", "thing", "block", "block", "pyramid", "box", "one", "foo", "bar", "ab", "cd"};

    private final Random random;
    private final Model model = new Model();
    private final RoomTalk room = new RoomTalk();
    private final long seed;
    private final boolean crowded;
    private int calls;
    private boolean wrong;
    private final StringBuilder history = new StringBuilder();

    private ModelTest(long seed) {
        this.seed = seed;
        random = new Random(seed);
        crowded = random.nextInt(3) != 0;
    }

    public static void main(String[] args) {
        int runs = args.length > 0 ? Integer.parseInt(args[0]) : 1500;
        long first = args.length > 1 ? Long.parseLong(args[1]) : 0;
        int bad = 0;
        for (long seed = first; seed < first + runs && bad < 5; seed++) {
            ModelTest test = new ModelTest(seed);
            test.run();
            bad += test.wrong ? 1 : 0;
        }
        System.out.println(bad == 0 ? "all answers are as the model's" : bad + " runs are not as the model's");
        if (bad != 0) {
            System.exit(1);
        }
    }

    private void run() {
        int things = random.nextInt(10) == 0 ? 18 : crowded ? oneOf(5, 14) : random.nextInt(9);
        for (int i = 0; i < things; i++) {
            makeThing();
        }
        for (int i = 0; crowded && i < 40; i++) {
            moveByChance();
        }
        while (calls < CALLS && !wrong) {
            step();
        }
    }

    private void step() {
        switch (random.nextInt(16)) {
            case 0 -> {
                if (!crowded || random.nextInt(8) == 0) {
                    makeThing();
                }
            }
            case 1, 2, 3 -> moveByChance();
            case 4 -> due("undo", room.undo(), model.undo());
            case 5 -> lookAtRoom();
            case 6 -> checkPlaces();
            case 7 -> feedByChance();
            case 8 -> countAll();
            default -> talk();
        }
    }

    private void due(String call, int got, int want) {
        calls++;
        history.append(call).append(" = ").append(got).append('\n');
        if (got != want && !wrong) {
            wrong = true;
            System.out.println("seed " + seed + "\n" + history + "due is " + want);
        }
    }

    private int oneOf(int from, int to) {
        return from + random.nextInt(to - from + 1);
    }

    private void makeThing() {
        int sort = random.nextInt(30) == 0 ? 3 : random.nextInt(5) % 3;
        int colour = random.nextInt(30) == 0 ? 4 : random.nextInt(4);
        int size = random.nextInt(30) == 0 ? 10 : oneOf(1, 9);
        due("thing " + sort + " " + colour + " " + size, room.thing(sort, colour, size), model.thing(sort, colour, size));
    }

    private void moveByChance() {
        boolean holds = model.places.contains(17);
        int kind = random.nextInt(12) == 0 ? oneOf(-1, 4) : !holds ? 0 : crowded && random.nextInt(4) != 0 ? 1 : oneOf(1, 3);
        int x = kind == 2 && random.nextInt(8) != 0 ? -1 : oneOf(-1, model.things.size());
        for (int i = 0; kind < 2 && crowded && i < 6 && !isFree(x); i++) {
            x = oneOf(0, model.things.size());
        }
        due("act " + kind + " " + x, room.act(kind, x), model.act(kind, x));
    }

    private boolean isFree(int x) {
        return model.where(x) >= 0 && model.things.get(x)[0] == 0 && model.over(x, 0) < 0;
    }

    private void lookAtRoom() {
        int x = oneOf(-1, model.things.size());
        int e = oneOf(-1, model.events.size());
        int what = oneOf(-1, 6);
        due("where " + x, room.where(x), model.where(x));
        due("over " + x + " 0", room.over(x, 0), model.over(x, 0));
        due("over " + x + " " + what, room.over(x, what), model.over(x, what));
        due("was " + x + " " + e, room.was(x, e), model.was(x, e));
        due("event " + e + " " + what, room.event(e, what), model.event(e, what));
        due("owned " + x, room.owned(x), model.owned(x));
        int m = oneOf(-1, model.sayings);
        due("acts " + m, room.acts(m), model.acts(m));
        int k = oneOf(-1, model.told.size());
        due("noun " + k, room.noun(k), model.noun(k));
        k = oneOf(-1, Math.min(9, model.mentions.size()));
        due("mentioned " + k, room.mentioned(k), model.mentioned(k));
    }

    private void countAll() {
        int what = oneOf(-1, 11);
        due("count " + what, room.count(what), model.count(what));
        what = oneOf(-1, 2);
        due("breaks " + what, room.breaks(what), model.breaks(what));
    }

    private void feedByChance() {
        int a = random.nextInt();
        due("feed " + a, room.feed(a, 1, 2, 3, 4), model.feed(a, 1, 2, 3, 4));
        int n = oneOf(-1, 101);
        if (random.nextInt(4) == 0) {
            due("say " + n, room.say(n), model.say(n));
        }
    }

    private void emptyTape() {
        if (!model.tape.isEmpty()) {
            due("check 0", room.check(0), model.check(0));
        }
    }

    private void checkPlaces() {
        emptyTape();
        int n = Math.max(0, model.things.size() + (random.nextInt(3) == 0 ? oneOf(-1, 1) : 0));
        int[] numbers = new int[(2 * n + 4) / 5 * 5];
        for (int i = 0; i < 2 * n; i++) {
            boolean right = random.nextInt(40) != 0 && i / 2 < model.things.size();
            numbers[i] = !right ? oneOf(-1, 17) : i % 2 == 0 ? i / 2 : model.places.get(i / 2);
        }
        for (int i = 0; i < numbers.length; i += 5) {
            feed(numbers, i);
        }
        int asked = random.nextInt(20) == 0 ? oneOf(-2, 40) : n;
        due("check " + asked, room.check(asked), model.check(asked));
    }

    private void feed(int[] numbers, int at) {
        int got = room.feed(numbers[at], numbers[at + 1], numbers[at + 2], numbers[at + 3], numbers[at + 4]);
        due("feed", got, model.feed(numbers[at], numbers[at + 1], numbers[at + 2], numbers[at + 3], numbers[at + 4]));
    }

    private void talk() {
        emptyTape();
        String text = saying();
        byte[] bytes = text.getBytes(StandardCharsets.ISO_8859_1);
        int[] numbers = new int[(bytes.length + 19) / 20 * 5];
        for (int i = 0; i < bytes.length; i++) {
            numbers[i / 4] |= (bytes[i] & 255) << 24 - 8 * (i % 4);
        }
        for (int i = 0; i < numbers.length; i += 5) {
            feed(numbers, i);
        }
        due("say '" + text + "'", room.say(text.length()), model.say(text.length()));
        if (random.nextInt(12) == 0) {
            moveByChance();
        }
        ask();
        if (random.nextInt(6) != 0) {
            due("done", room.done(), model.done());
        }
    }

    private void ask() {
        int last = model.hand == null ? 0 : model.hand.readings.size();
        int r = random.nextInt(4) == 0 ? oneOf(-1, last) : random.nextInt(Math.max(1, last));
        for (int i = 0; model.hand != null && i <= model.hand.onwards.size(); i++) {
            due("reading " + r + " " + i, room.reading(r, i), model.reading(r, i));
            due("means " + r + " " + i, room.means(r, i), model.means(r, i));
        }
        int what = random.nextInt(8) == 0 ? oneOf(-1, 2) : oneOf(0, 1);
        due("trouble " + r + " " + what, room.trouble(r, what), model.trouble(r, what));
        due("taken", room.taken(), model.taken());
        due("answer", room.answer(), model.answer());
        int length = model.plan(-1);
        due("plan -1", room.plan(-1), length);
        for (int i = 0; i < 4 && model.hand != null; i++) {
            int part = oneOf(-2, Math.max(0, 3 * length));
            due("plan " + part, room.plan(part), model.plan(part));
        }
        if (random.nextInt(4) == 0) {
            due("judge " + r, room.judge(r), model.judge(r));
        }
    }

    private String saying() {
        String text = rightSaying();
        if (random.nextInt(5) == 0) {
            text = spoilt(text);
        }
        return text.substring(0, Math.min(100, text.length()));
    }

    private String rightSaying() {
        int onwards = random.nextInt(12) == 0 ? oneOf(4, 8) : oneOf(0, 3);
        switch (random.nextInt(12)) {
            case 0:
                return "drop";
            case 1:
                return "take " + np() + links(onwards);
            case 2:
                return "many " + n() + links(onwards);
            case 3:
                return "which " + n() + links(onwards);
            case 4:
                return "is " + np() + links(Math.max(1, onwards));
            case 5:
                return "i own " + n() + links(onwards);
            case 6:
                return "i own no " + n() + links(onwards);
            case 7:
                return new String[] {"foo", "bar", "ab", "cd", "ef", "gh", "ij", "kl", "mn"}[random.nextInt(9)] + " means "
                        + n() + links(onwards);
            case 8:
                return "put " + np() + links(onwards / 2) + " down";
            default:
                return "put " + np() + links(Math.max(1, onwards));
        }
    }

    private String links(int onwards) {
        StringBuilder text = new StringBuilder();
        for (int i = 0; i < onwards; i++) {
            text.append(new String[] {" on ", " on ", " in ", " under "}[random.nextInt(4)]).append(np());
        }
        return text.toString();
    }

    private String np() {
        return switch (random.nextInt(crowded ? 20 : 8)) {
            case 0 -> "it";
            case 1 -> "that";
            case 2, 3 -> "the " + n();
            default -> "a " + n();
        };
    }

    private String n() {
        String text = random.nextInt(crowded ? 6 : 2) == 0 ? ADJECTIVES[random.nextInt(6)] + " " : "";
        String more = random.nextInt(8) == 0 ? ADJECTIVES[random.nextInt(6)] + " " : "";
        int told = model.told.size();
        String noun = told > 0 && random.nextInt(4) == 0 ? model.told.get(random.nextInt(told)).w
                : NOUNS[random.nextInt(random.nextInt(10) == 0 ? NOUNS.length : 7)];
        return text + more + noun;
    }

    private String spoilt(String text) {
        String[] words = text.split(" ");
        int at = random.nextInt(words.length);
        switch (random.nextInt(8)) {
            case 0, 1:
                words[at] = ALL_WORDS[random.nextInt(ALL_WORDS.length)];
                return String.join(" ", words);
            case 2:
                words[at] = words[at] + " " + ALL_WORDS[random.nextInt(ALL_WORDS.length)];
                return String.join(" ", words);
            case 3:
                int cut = oneOf(1, text.length());
                return text.substring(0, cut);
            case 4:
                int place = random.nextInt(text.length());
                return text.substring(0, place) + (char) random.nextInt(256) + text.substring(place + 1);
            case 5:
                int blank = oneOf(0, text.length());
                return text.substring(0, blank) + " " + text.substring(blank);
            case 6:
                return ALL_WORDS[random.nextInt(ALL_WORDS.length)] + " means " + text;
            default:
                return text + " " + text;
        }
    }
}
