import java.util.ArrayList;
import java.util.Arrays;
import java.util.HashMap;
import java.util.List;
import java.util.Map;
import java.util.TreeSet;
import java.util.regex.Matcher;
import java.util.regex.Pattern;

/**
 * The document once more, by other means than the class: words by a regular expression, readings by
 * trying all owners and throwing away what crosses, meanings by plain recursion, plans by acting in a copy.
 */
final class Model {
    private static final List<String> NOUNS = List.of("thing", "block", "pyramid", "box", "one");
    private static final List<String> COLOURS = List.of("red", "green", "blue", "white");
    private static final List<String> SIZES = List.of("big", "small");
    private static final List<String> RELATIONS = List.of("on", "in", "under");
    // P put, T take, D drop, S is, M many or which, W a new word, E means, I i, O own, Z no,
    // t the or a, i it or that, j an adjective, n a noun, o an onward, d down
    private static final String N = "j*n";
    private static final String NP = "(i|t" + N + ")";
    private static final String MORE = "(o" + NP + ")*";
    private static final Pattern FORM = Pattern.compile("P" + NP + MORE + "d?|T" + NP + MORE + "|D|S" + NP + MORE
            + "|M" + N + MORE + "|WE" + N + MORE + "|IOZ?" + N + MORE);

    static final class Event {
        int kind;
        int thing;
        int to;
        int cause;
        int saying;
        int from;
    }

    static final class Np {
        String article = "";
        List<String> adjectives = new ArrayList<>();
        String noun;
    }

    static final class Said {
        String verb;
        String w;
        boolean no;
        boolean down;
        List<Np> nps = new ArrayList<>();
        List<String> onwards = new ArrayList<>();
        List<int[]> readings = new ArrayList<>();
        String one;
    }

    static final class Outcome {
        int trouble;
        int np = -1;
        int mover = -1;
        int goal = -1;
        List<TreeSet<Integer>> sets = new ArrayList<>();
        Object upshot;
        int answer = -1;
    }

    List<int[]> things = new ArrayList<>();
    List<Integer> places = new ArrayList<>();
    List<Event> events = new ArrayList<>();
    List<Integer> tape = new ArrayList<>();
    List<Said> told = new ArrayList<>();
    List<Integer> mentions = new ArrayList<>();
    List<Integer> yes = new ArrayList<>();
    List<Integer> no = new ArrayList<>();
    List<Boolean> judged = new ArrayList<>();
    int statements;
    int sayings;
    String lastNoun;
    Said hand;

    int thing(int sort, int colour, int size) {
        if (sort < 0 || sort > 2 || colour < 0 || colour > 3 || size < 1 || size > 9 || things.size() == 16) {
            return -1;
        }
        things.add(new int[] {sort, colour, size});
        places.add(16);
        return things.size() - 1;
    }

    private boolean is(int x) {
        return x >= 0 && x < things.size();
    }

    private boolean bearsNothing(int x) {
        return !places.contains(x);
    }

    int act(int kind, int x) {
        return perform(kind, x, -1, -1);
    }

    private int perform(int kind, int x, int cause, int saying) {
        int held = places.indexOf(17);
        boolean can;
        if (kind == 0) {
            can = held < 0 && is(x) && things.get(x)[0] != 2 && bearsNothing(x);
        } else if (kind == 1) {
            can = held >= 0 && is(x) && x != held && things.get(x)[0] == 0 && bearsNothing(x);
        } else if (kind == 2) {
            can = held >= 0 && x == -1;
        } else {
            can = kind == 3 && held >= 0 && is(x) && things.get(x)[0] == 2;
        }
        if (!can || events.size() == 200) {
            return -1;
        }
        Event event = new Event();
        event.kind = kind;
        event.thing = kind == 0 ? x : held;
        event.to = kind == 0 ? 17 : kind == 2 ? 16 : x;
        event.cause = cause;
        event.saying = saying;
        event.from = places.get(event.thing);
        places.set(event.thing, event.to);
        events.add(event);
        return events.size() - 1;
    }

    int undo() {
        if (events.isEmpty()) {
            return -1;
        }
        Event last = events.remove(events.size() - 1);
        places.set(last.thing, last.from);
        return events.size();
    }

    int where(int x) {
        return is(x) ? places.get(x) : -1;
    }

    int over(int x, int what) {
        if (!is(x) || things.get(x)[0] != 0 || what < 0 || what > 1) {
            return -1;
        }
        int on = places.indexOf(x);
        if (what == 0 || on < 0) {
            return on;
        }
        int higher = over(on, 1);
        return higher < 0 ? on : higher;
    }

    int was(int x, int e) {
        if (!is(x) || e < 0 || e >= events.size()) {
            return -1;
        }
        int place = places.get(x);
        for (int i = events.size() - 1; i > e; i--) {
            if (events.get(i).thing == x) {
                place = events.get(i).from;
            }
        }
        return place;
    }

    int event(int e, int what) {
        if (e < 0 || e >= events.size() || what < 0 || what > 5) {
            return -1;
        }
        Event event = events.get(e);
        return new int[] {event.kind, event.thing, event.to, event.cause, event.saying, event.from}[what];
    }

    int feed(int a, int b, int c, int d, int e) {
        if (tape.size() > 180) {
            return -1;
        }
        for (int number : new int[] {a, b, c, d, e}) {
            for (byte one : java.nio.ByteBuffer.allocate(4).putInt(number).array()) {
                tape.add(one & 255);
            }
        }
        return tape.size();
    }

    int say(int n) {
        if (n < 1 || n > 100 || n > tape.size()) {
            return -1;
        }
        StringBuilder text = new StringBuilder();
        for (int i = 0; i < n; i++) {
            text.append((char) (int) tape.get(i));
        }
        tape.clear();
        hand = new Said();
        int answer = hear(text.toString());
        if (answer < 0) {
            hand = null;
        }
        return answer;
    }

    private int hear(String text) {
        StringBuilder form = new StringBuilder();
        List<String> said = new ArrayList<>();
        int start = 0;
        for (int end = 0; end <= text.length(); end++) {
            if (end < text.length() && text.substring(end, end + 1).matches("[a-z]")) {
                continue;
            }
            if (end < text.length() && (text.charAt(end) != ' ' || end == start)) {
                return -5000 - end;
            }
            String word = text.substring(start, end);
            boolean isW = start == 0 && text.substring(end).matches(" means( (?s:.*))?");
            char sign = signOf(word);
            if (sign == '?') {
                if (!isW || word.length() < 2 || word.length() > 10) {
                    return -2000 - start;
                }
                sign = 'W';
            } else if (sign == 'o' && said.stream().filter(RELATIONS::contains).count() == 6) {
                return -4000 - start;
            } else if (isW) {
                return -3000 - start;
            }
            form.append(sign);
            said.add(word);
            Matcher matcher = FORM.matcher(form);
            boolean fits = matcher.matches();
            if (!fits && !matcher.hitEnd() || !read(form.toString(), said, false)) {
                return -1000 - start;
            }
            if (text.substring(end).equals(" ")) {
                return -5000 - end;
            }
            start = end + 1;
        }
        if (!FORM.matcher(form).matches() || !read(form.toString(), said, true)) {
            return -1000 - text.length();
        }
        return hand.readings.size();
    }

    private char signOf(String word) {
        Map<String, Character> signs = new HashMap<>();
        NOUNS.forEach(w -> signs.put(w, 'n'));
        told.forEach(t -> signs.put(t.w, 'n'));
        COLOURS.forEach(w -> signs.put(w, 'j'));
        SIZES.forEach(w -> signs.put(w, 'j'));
        RELATIONS.forEach(w -> signs.put(w, 'o'));
        String others = "put P take T drop D is S many M which M means E i I own O no Z the t a t it i that i down d";
        String[] parts = others.split(" ");
        for (int i = 0; i < parts.length; i += 2) {
            signs.put(parts[i], parts[i + 1].charAt(0));
        }
        return signs.getOrDefault(word, '?');
    }

    /** Takes the words apart, and finds all readings: of all that was said, or of what may still go on. */
    private boolean read(String form, List<String> said, boolean whole) {
        hand = new Said();
        hand.verb = form.startsWith("W") ? "means" : form.startsWith("I") ? "own" : said.get(0);
        hand.w = said.get(0);
        if ("MWI".indexOf(form.charAt(0)) >= 0) {
            hand.nps.add(new Np());
        }
        for (int i = 1; i < said.size(); i++) {
            String word = said.get(i);
            Np last = hand.nps.isEmpty() ? null : hand.nps.get(hand.nps.size() - 1);
            switch (form.charAt(i)) {
                case 't', 'i' -> {
                    hand.nps.add(new Np());
                    hand.nps.get(hand.nps.size() - 1).article = word;
                }
                case 'j' -> last.adjectives.add(word);
                case 'n' -> last.noun = word;
                case 'o' -> hand.onwards.add(word);
                case 'd' -> hand.down = true;
                case 'Z' -> hand.no = true;
                default -> { }
            }
        }
        tryOwners(new int[hand.onwards.size()], 0, whole);
        return !hand.readings.isEmpty();
    }

    private void tryOwners(int[] owners, int i, boolean whole) {
        if (i == owners.length) {
            if (isReading(owners, whole)) {
                hand.readings.add(owners.clone());
            }
            return;
        }
        for (int owner = 0; owner <= i + 1; owner++) {
            owners[i] = owner;
            tryOwners(owners, i + 1, whole);
        }
    }

    private boolean isReading(int[] owners, boolean whole) {
        int placed = 0;
        for (int i = 0; i < owners.length; i++) {
            if (owners[i] == 0) {
                placed++;
                boolean placeable = hand.verb.equals("is") || hand.verb.equals("put") && !hand.onwards.get(i).equals("under");
                if (!placeable) {
                    return false;
                }
            } else if (hand.nps.get(owners[i] - 1).noun == null) {
                return false;
            }
            for (int j = i + 1; j < owners.length; j++) {
                // the arcs from NP owners[i] - 1 to ONWARD i and from NP owners[j] - 1 to ONWARD j cross
                if (owners[i] < owners[j] && owners[j] - 1 <= i) {
                    return false;
                }
                // what belongs to the first word ends what stands ahead of it
                if (owners[i] == 0 && owners[j] == 0) {
                    return false;
                }
            }
        }
        boolean wantsPlace = hand.verb.equals("is") || hand.verb.equals("put") && !hand.down;
        if (!wantsPlace) {
            return placed == 0;
        }
        return whole ? placed == 1 : placed <= 1;
    }

    private TreeSet<Integer> meaning(Said said, int[] owners, int k, String one) {
        TreeSet<Integer> set = new TreeSet<>();
        Np np = said.nps.get(k);
        if (np.article.equals("it")) {
            if (!mentions.isEmpty()) {
                set.add(mentions.get(mentions.size() - 1));
            }
        } else if (np.article.equals("that")) {
            if (!events.isEmpty()) {
                set.add(events.get(events.size() - 1).thing);
            }
        } else {
            set.addAll(ofNoun(np.noun.equals("one") ? one : np.noun));
            set.removeIf(x -> !np.adjectives.stream().allMatch(a -> looks(x, a)));
            for (int i = 0; i < owners.length; i++) {
                if (owners[i] == k + 1) {
                    TreeSet<Integer> others = meaning(said, owners, i + 1, one);
                    String relation = said.onwards.get(i);
                    set.removeIf(x -> others.stream().noneMatch(y -> related(x, relation, y)));
                }
            }
        }
        return set;
    }

    private boolean looks(int x, String adjective) {
        int[] thing = things.get(x);
        return switch (adjective) {
            case "big" -> thing[2] >= 5;
            case "small" -> thing[2] <= 4;
            default -> thing[1] == COLOURS.indexOf(adjective);
        };
    }

    private boolean related(int x, String relation, int y) {
        return switch (relation) {
            case "on" -> places.get(x) == y && things.get(y)[0] == 0;
            case "in" -> places.get(x) == y && things.get(y)[0] == 2;
            default -> related(y, "on", x);
        };
    }

    private TreeSet<Integer> ofNoun(String noun) {
        TreeSet<Integer> set = new TreeSet<>();
        if (noun == null) {
            return set;
        }
        for (Said earlier : told) {
            if (earlier.w.equals(noun)) {
                return meaning(earlier, earlier.readings.get(0), 0, earlier.one);
            }
        }
        for (int x = 0; x < things.size(); x++) {
            if (noun.equals("thing") || NOUNS.indexOf(noun) == things.get(x)[0] + 1) {
                set.add(x);
            }
        }
        return set;
    }

    private Outcome outcome(int r) {
        Outcome outcome = new Outcome();
        int[] owners = hand.readings.get(r);
        for (int k = 0; k < hand.nps.size(); k++) {
            outcome.sets.add(meaning(hand, owners, k, lastNoun));
        }
        for (int k = 0; k < hand.nps.size() && outcome.trouble == 0; k++) {
            int size = outcome.sets.get(k).size();
            String article = hand.nps.get(k).article;
            if (article.equals("the") && size != 1) {
                outcome.trouble = size == 0 ? 1 : 2;
            } else if (size == 0 && !article.isEmpty()) {
                outcome.trouble = article.equals("a") ? 3 : 4;
            }
            outcome.np = outcome.trouble == 0 ? -1 : k;
        }
        if (outcome.trouble == 0 && !tryToDo(outcome, owners)) {
            outcome.trouble = 5;
        }
        return outcome;
    }

    private boolean tryToDo(Outcome outcome, int[] owners) {
        int place = -1;
        for (int i = 0; i < owners.length; i++) {
            place = owners[i] == 0 ? i : place;
        }
        TreeSet<Integer> first = outcome.sets.isEmpty() ? new TreeSet<>() : outcome.sets.get(0);
        TreeSet<Integer> there = place < 0 ? null : outcome.sets.get(place + 1);
        String relation = place < 0 ? "" : hand.onwards.get(place);
        switch (hand.verb) {
            case "drop":
                outcome.upshot = "drop";
                return places.contains(17);
            case "take", "put":
                outcome.mover = first.stream().filter(x -> things.get(x)[0] != 2).findFirst().orElse(-1);
                if (outcome.mover < 0) {
                    return false;
                }
                if (hand.verb.equals("take")) {
                    outcome.goal = 17;
                } else if (hand.down) {
                    outcome.goal = 16;
                } else {
                    int sort = relation.equals("on") ? 0 : 2;
                    int mover = outcome.mover;
                    outcome.goal = there.stream().filter(y -> things.get(y)[0] == sort && y != mover && !bears(mover, y))
                            .findFirst().orElse(-1);
                }
                outcome.upshot = outcome.mover + " to " + outcome.goal;
                return outcome.goal >= 0;
            case "is":
                outcome.answer = first.stream().anyMatch(x -> there.stream().anyMatch(y -> related(x, relation, y))) ? 1 : 0;
                outcome.upshot = outcome.answer;
                return true;
            case "many":
                outcome.answer = first.size();
                outcome.upshot = outcome.answer;
                return true;
            case "which":
                outcome.answer = bits(first);
                outcome.upshot = outcome.answer;
                return true;
            case "own":
                outcome.upshot = first;
                return true;
            default:
                outcome.upshot = "means";
                return true;
        }
    }

    private boolean bears(int x, int y) {
        return is(y) && (places.get(y) == x || bears(x, places.get(y)));
    }

    static int bits(TreeSet<Integer> set) {
        return set.stream().mapToInt(x -> 1 << x).sum();
    }

    private boolean isAt(int r) {
        return hand != null && r >= 0 && r < hand.readings.size();
    }

    int reading(int r, int i) {
        return isAt(r) && i >= 0 && i < hand.onwards.size() ? hand.readings.get(r)[i] : -1;
    }

    int means(int r, int k) {
        return isAt(r) && k >= 0 && k < hand.nps.size() ? bits(outcome(r).sets.get(k)) : -1;
    }

    int trouble(int r, int what) {
        if (!isAt(r) || what < 0 || what > 1) {
            return -1;
        }
        return what == 0 ? outcome(r).trouble : outcome(r).np;
    }

    int taken() {
        if (hand == null) {
            return -1;
        }
        List<Integer> fitting = new ArrayList<>();
        List<Object> upshots = new ArrayList<>();
        for (int r = 0; r < hand.readings.size(); r++) {
            Outcome outcome = outcome(r);
            if (outcome.trouble == 0) {
                fitting.add(r);
                upshots.add(outcome.upshot);
            }
        }
        if (fitting.isEmpty()) {
            return -3;
        }
        return upshots.stream().distinct().count() > 1 ? -2 : fitting.get(0);
    }

    int answer() {
        if (hand == null || !List.of("is", "many", "which").contains(hand.verb)) {
            return -1;
        }
        int r = taken();
        return r < 0 ? -2 : outcome(r).answer;
    }

    private boolean isBidden() {
        return List.of("put", "take", "drop").contains(hand.verb);
    }

    int plan(int what) {
        if (hand == null || !isBidden()) {
            return -1;
        }
        int r = taken();
        if (r < 0) {
            return -2;
        }
        List<int[]> steps = steps(outcome(r));
        if (what == -1) {
            return steps.size();
        }
        return what < 0 || what >= 3 * steps.size() ? -1 : steps.get(what / 3)[what % 3];
    }

    private List<int[]> steps(Outcome outcome) {
        Model copy = new Model();
        copy.things = things;
        copy.places = new ArrayList<>(places);
        if (hand.verb.equals("drop")) {
            copy.perform(2, -1, -1, 0);
        } else if (places.get(outcome.mover) != outcome.goal) {
            copy.bring(outcome.mover, outcome.goal);
        }
        List<int[]> steps = new ArrayList<>();
        for (Event event : copy.events) {
            int x = event.kind == 0 ? event.thing : event.kind == 2 ? -1 : event.to;
            steps.add(new int[] {event.kind, x, event.cause});
        }
        return steps;
    }

    private void bring(int x, int y) {
        int held = places.indexOf(17);
        boolean onBlock = is(y) && things.get(y)[0] == 0;
        if (held >= 0 && (held != x || onBlock && !bearsNothing(y))) {
            perform(2, -1, 20, 0);
        }
        for (int base : onBlock ? new int[] {x, y} : new int[] {x}) {
            while (over(base, 1) >= 0) {
                perform(0, over(base, 1), base, 0);
                perform(2, -1, base, 0);
            }
        }
        if (places.get(x) != 17) {
            perform(0, x, -1, 0);
        }
        if (y == 16) {
            perform(2, -1, -1, 0);
        } else if (y != 17) {
            perform(onBlock ? 1 : 3, y, -1, 0);
        }
    }

    int done() {
        if (hand == null) {
            return -1;
        }
        int r = taken();
        if (r < 0) {
            return -2;
        }
        Outcome outcome = outcome(r);
        List<int[]> steps = isBidden() ? steps(outcome) : List.of();
        boolean tells = hand.verb.equals("means");
        boolean owns = hand.verb.equals("own");
        if (sayings == 60 || events.size() + steps.size() > 200 || tells && told.size() == 8 || owns && statements == 20) {
            return -3;
        }
        for (int[] step : steps) {
            perform(step[0], step[1], step[2], sayings);
        }
        if (tells) {
            hand.one = lastNoun;
            told.add(hand);
        }
        if (owns) {
            statements++;
            (hand.no ? no : yes).addAll(outcome.sets.get(0));
        }
        for (TreeSet<Integer> set : outcome.sets) {
            if (set.size() == 1) {
                mentions.add(set.first());
            }
        }
        for (Np np : hand.nps) {
            lastNoun = np.noun == null || np.noun.equals("one") ? lastNoun : np.noun;
        }
        hand = null;
        return sayings++;
    }

    int mentioned(int k) {
        return k >= 0 && k < mentions.size() ? mentions.get(mentions.size() - 1 - k) : -1;
    }

    int owned(int x) {
        if (!is(x)) {
            return -1;
        }
        if (yes.contains(x)) {
            return no.contains(x) ? 3 : 1;
        }
        return no.contains(x) ? 0 : 2;
    }

    int judge(int r) {
        if (!isAt(r) || judged.size() == 60) {
            return -1;
        }
        judged.add(taken() == r);
        return taken() == r ? 1 : 0;
    }

    int breaks(int what) {
        if (what == 0) {
            return (int) judged.stream().filter(same -> !same).count();
        }
        return what == 1 ? judged.indexOf(false) : -1;
    }

    int acts(int m) {
        return m < 0 || m >= sayings ? -1 : (int) events.stream().filter(e -> e.saying == m).count();
    }

    int noun(int k) {
        return k < 0 || k >= told.size() ? -1 : bits(ofNoun(told.get(k).w));
    }

    int check(int n) {
        if (n < 0 || 8L * n > tape.size()) {
            return -2;
        }
        List<Integer> given = new ArrayList<>();
        for (int i = 0; i < 2 * n; i++) {
            List<Integer> four = tape.subList(4 * i, 4 * i + 4);
            given.add(four.get(0) << 24 | four.get(1) << 16 | four.get(2) << 8 | four.get(3));
        }
        tape.clear();
        List<Integer> right = new ArrayList<>();
        for (int x = 0; x < things.size(); x++) {
            right.addAll(Arrays.asList(x, places.get(x)));
        }
        for (int i = 0; i < given.size(); i++) {
            if (i >= right.size() || !given.get(i).equals(right.get(i))) {
                return i;
            }
        }
        return given.size() < right.size() ? given.size() : -1;
    }

    int count(int what) {
        int at = hand == null ? 0 : 1;
        int[] counts = {things.size(), events.size(), sayings, told.size(), statements, judged.size(), tape.size(), at,
            at == 0 ? -1 : hand.nps.size(), at == 0 ? -1 : hand.onwards.size(), at == 0 ? -1 : hand.readings.size()};
        return what < 0 || what >= counts.length ? -1 : counts[what];
    }
}
