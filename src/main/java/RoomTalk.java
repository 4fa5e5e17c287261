/** A room of blocks, pyramids and boxes, and a talk about it; what each call promises is told in DOC.md. */
public final class RoomTalk {
    public static final int NONE = -1;

    private static final int ASKED_BACK = -2;
    private static final int NONE_FITS = -3;
    private static final int TOO_MANY = -3;
    private static final int TAPE_TOO_SHORT = -2;

    private static final int MAX_THINGS = 16;
    private static final int MAX_EVENTS = 200;
    private static final int MAX_TAPE = 200;
    private static final int MAX_TEXT = 100;
    private static final int MAX_ONWARDS = 6;
    private static final int MAX_NPS = MAX_ONWARDS + 1;
    private static final int MAX_TOLD = 8;
    private static final int MAX_SAYINGS = 60;
    private static final int MAX_STATEMENTS = 20;
    private static final int MAX_JUDGED = 60;
    private static final int MAX_MENTIONS = MAX_SAYINGS * MAX_NPS;
    // Six ONWARDS have 132 readings with a PLACE and, while none has been read yet, 132 without one.
    private static final int MAX_ROWS = 264;
    // At most 15 things are cleared by two acts each; the hand is emptied, the thing taken and put.
    private static final int MAX_PLAN = 40;

    private static final int SMALLEST_BIG = 5;
    private static final int BLOCK = 0;
    private static final int BOX = 2;
    private static final int TABLE = 16;
    private static final int HAND = 17;
    private static final int EMPTYING = 20;

    private static final int ACT_TAKE = 0;
    private static final int ACT_ON = 1;
    private static final int ACT_DOWN = 2;
    private static final int ACT_IN = 3;

    private static final int EVENT_PARTS = 6;
    private static final int EVENT_THING = 1;
    private static final int EVENT_TO = 2;
    private static final int EVENT_SAYING = 4;
    private static final int EVENT_FROM = 5;

    private static final int BLANK = 32;
    private static final int SHORTEST_W = 2;
    private static final int LONGEST_W = 10;

    // A word is known by its place in this row; the words told come behind it.
    private static final String WORDS = "thing block pyramid box one red green blue white big small put take drop is many which means i own no the a it that on in under down";
    private static final int WORD_THING = 0;
    private static final int WORD_BLOCK = 1;
    private static final int WORD_ONE = 4;
    private static final int WORD_RED = 5;
    private static final int WORD_BIG = 9;
    private static final int WORD_SMALL = 10;
    private static final int WORD_PUT = 11;
    private static final int WORD_TAKE = 12;
    private static final int WORD_DROP = 13;
    private static final int WORD_IS = 14;
    private static final int WORD_MANY = 15;
    private static final int WORD_WHICH = 16;
    private static final int WORD_MEANS = 17;
    private static final int WORD_I = 18;
    private static final int WORD_OWN = 19;
    private static final int WORD_NO = 20;
    private static final int WORD_THE = 21;
    private static final int WORD_A = 22;
    private static final int WORD_IT = 23;
    private static final int WORD_THAT = 24;
    private static final int WORD_ON = 25;
    private static final int WORD_IN = 26;
    private static final int WORD_UNDER = 27;
    private static final int WORD_DOWN = 28;
    private static final int WORD_TOLD = 29;

    private static final int FAULT_ORDER = 1;
    private static final int FAULT_UNKNOWN = 2;
    private static final int FAULT_W_KNOWN = 3;
    private static final int FAULT_SEVENTH = 4;
    private static final int FAULT_BYTE = 5;
    private static final int FAULT_UNIT = 1000;

    private static final int THE_NONE = 1;
    private static final int THE_MANY = 2;
    private static final int A_NONE = 3;
    private static final int IT_NONE = 4;
    private static final int CANT_BE_DONE = 5;

    private final Room room;
    private final Tape tape;
    private final Words words;
    private final Memory memory;
    private final Saying saying;
    private final Sense sense;
    private final Steps steps;

    public RoomTalk() {
        room = new Room();
        tape = new Tape();
        words = new Words();
        memory = new Memory();
        saying = new Saying();
        sense = new Sense(room, words, memory);
        steps = new Steps();
    }

    public int thing(int sort, int colour, int size) {
        return room.addThing(sort, colour, size);
    }

    public int act(int kind, int x) {
        return room.perform(kind, x, NONE, NONE);
    }

    public int undo() {
        return room.takeBack();
    }

    public int where(int x) {
        return room.placeOf(x);
    }

    public int over(int x, int what) {
        switch (what) {
            case 0:
                return room.onTop(x);
            case 1:
                return room.highestOver(x);
            default:
                return NONE;
        }
    }

    public int was(int x, int e) {
        return room.placeBehind(x, e);
    }

    public int event(int e, int what) {
        return room.partOfEvent(e, what);
    }

    public int feed(int a, int b, int c, int d, int e) {
        if (!tape.hasRoomFor(20)) {
            return NONE;
        }
        tape.addNumber(a);
        tape.addNumber(b);
        tape.addNumber(c);
        tape.addNumber(d);
        tape.addNumber(e);
        return tape.length();
    }

    public int say(int n) {
        if (n < 1 || n > MAX_TEXT || n > tape.length()) {
            return NONE;
        }
        int heard = saying.hear(tape, n, words);
        tape.empty();
        return heard;
    }

    public int reading(int r, int i) {
        if (!saying.hasReading(r) || i < 0 || i >= saying.phrase.onwards()) {
            return NONE;
        }
        return Readings.ownerOf(saying.readings.row(r), i);
    }

    public int means(int r, int k) {
        if (!saying.hasReading(r) || k < 0 || k >= saying.phrase.nps()) {
            return NONE;
        }
        sense.weighOne(saying, r);
        return sense.meantBy(k);
    }

    public int trouble(int r, int what) {
        if (!saying.hasReading(r) || what < 0 || what > 1) {
            return NONE;
        }
        sense.weighOne(saying, r);
        return what == 0 ? sense.troubleKind() : sense.troubleNp();
    }

    public int taken() {
        return saying.atHand() ? sense.choose(saying) : NONE;
    }

    public int answer() {
        if (!saying.atHand() || !saying.isAsked()) {
            return NONE;
        }
        int chosen = sense.choose(saying);
        return chosen < 0 ? ASKED_BACK : sense.answerFor(saying, chosen);
    }

    public int plan(int what) {
        if (!saying.atHand() || !saying.isBidden()) {
            return NONE;
        }
        if (sense.choose(saying) < 0) {
            return ASKED_BACK;
        }
        steps.build(room, saying.verb(), sense.mover(), sense.goal());
        return what == NONE ? steps.length() : steps.part(what);
    }

    public int done() {
        if (!saying.atHand()) {
            return NONE;
        }
        if (sense.choose(saying) < 0) {
            return ASKED_BACK;
        }
        steps.clear();
        if (saying.isBidden()) {
            steps.build(room, saying.verb(), sense.mover(), sense.goal());
        }
        if (!hasRoomToDo()) {
            return TOO_MANY;
        }
        return carryOut();
    }

    public int mentioned(int k) {
        return memory.mentionedBack(k);
    }

    public int owned(int x) {
        return room.has(x) ? memory.owning(x) : NONE;
    }

    public int judge(int r) {
        if (!saying.hasReading(r) || memory.judged() >= MAX_JUDGED) {
            return NONE;
        }
        boolean same = sense.choose(saying) == r;
        memory.keepJudged(same);
        return same ? 1 : 0;
    }

    public int breaks(int what) {
        switch (what) {
            case 0:
                return memory.otherwise();
            case 1:
                return memory.firstOtherwise();
            default:
                return NONE;
        }
    }

    public int acts(int m) {
        return m < 0 || m >= memory.sayings() ? NONE : room.eventsOf(m);
    }

    public int noun(int k) {
        return k < 0 || k >= words.told() ? NONE : sense.meantByTold(k);
    }

    public int check(int n) {
        if (n < 0 || n > MAX_TAPE / 8 || n * 8 > tape.length()) {
            return TAPE_TOO_SHORT;
        }
        int wrong = firstWrong(n);
        tape.empty();
        return wrong;
    }

    public int count(int what) {
        switch (what) {
            case 0:
                return room.things();
            case 1:
                return room.events();
            case 2:
                return memory.sayings();
            case 3:
                return words.told();
            case 4:
                return memory.statements();
            case 5:
                return memory.judged();
            case 6:
                return tape.length();
            case 7:
                return saying.atHand() ? 1 : 0;
            default:
                return saying.atHand() ? saying.size(what) : NONE;
        }
    }

    private boolean hasRoomToDo() {
        if (memory.sayings() >= MAX_SAYINGS || room.events() + steps.length() > MAX_EVENTS) {
            return false;
        }
        if (saying.verb() == WORD_MEANS) {
            return words.told() < MAX_TOLD;
        }
        return saying.verb() != WORD_OWN || memory.statements() < MAX_STATEMENTS;
    }

    private int carryOut() {
        int number = memory.sayings();
        for (int i = 0; i < steps.length(); i++) {
            room.perform(steps.part(3 * i), steps.part(3 * i + 1), steps.part(3 * i + 2), number);
        }
        if (saying.verb() == WORD_MEANS) {
            words.tell(saying, memory.lastNoun());
        }
        if (saying.verb() == WORD_OWN) {
            memory.keepStatement(sense.meantBy(0), saying.denies());
        }
        // What was meant is still as it was ahead of the acts: so it was said.
        for (int k = 0; k < saying.phrase.nps(); k++) {
            memory.mentionIfOne(sense.meantBy(k));
        }
        memory.keepDone(saying.phrase.lastNoun());
        saying.putAway();
        return number;
    }

    private int firstWrong(int n) {
        for (int i = 0; i < n; i++) {
            if (!room.has(i) || tape.numberAt(2 * i) != i) {
                return 2 * i;
            }
            if (tape.numberAt(2 * i + 1) != room.placeOf(i)) {
                return 2 * i + 1;
            }
        }
        return n < room.things() ? 2 * n : NONE;
    }

    /** The bytes fed and not used yet. */
    private static final class Tape {
        private final int[] bytes = new int[MAX_TAPE];
        private int length;

        int length() {
            return length;
        }

        boolean hasRoomFor(int more) {
            return length + more <= MAX_TAPE;
        }

        void addNumber(int number) {
            if (hasRoomFor(4)) {
                for (int shift = 24; shift >= 0; shift -= 8) {
                    bytes[length] = number >>> shift & 255;
                    length++;
                }
            }
        }

        int byteAt(int i) {
            return i >= 0 && i < length ? bytes[i] : NONE;
        }

        boolean isLetter(int i) {
            return byteAt(i) >= 'a' && byteAt(i) <= 'z';
        }

        int numberAt(int i) {
            int number = 0;
            for (int k = 4 * i; k < 4 * i + 4; k++) {
                number = number << 8 | byteAt(k) & 255;
            }
            return number;
        }

        void empty() {
            length = 0;
        }
    }

    /** The things, where they are, and the events that brought them there. */
    private static final class Room {
        private final int[] sorts = new int[MAX_THINGS];
        private final int[] colours = new int[MAX_THINGS];
        private final int[] sizes = new int[MAX_THINGS];
        private final int[] places = new int[MAX_THINGS];
        private final int[] log = new int[MAX_EVENTS * EVENT_PARTS];
        private int things;
        private int events;
        private int held = NONE;

        int things() {
            return things;
        }

        int events() {
            return events;
        }

        int held() {
            return held;
        }

        boolean has(int x) {
            return x >= 0 && x < things;
        }

        int addThing(int sort, int colour, int size) {
            if (sort < 0 || sort > BOX || colour < 0 || colour > 3 || size < 1 || size > 9) {
                return NONE;
            }
            if (things >= MAX_THINGS) {
                return NONE;
            }
            sorts[things] = sort;
            colours[things] = colour;
            sizes[things] = size;
            places[things] = TABLE;
            things++;
            return things - 1;
        }

        boolean isSort(int x, int sort) {
            return has(x) && sorts[x] == sort;
        }

        int placeOf(int x) {
            return x >= 0 && x < things ? places[x] : NONE;
        }

        int onTop(int x) {
            if (x >= 0 && x < things && sorts[x] == BLOCK) {
                for (int y = 0; y < things; y++) {
                    if (places[y] == x) {
                        return y;
                    }
                }
            }
            return NONE;
        }

        int highestOver(int x) {
            int highest = NONE;
            int next = onTop(x);
            for (int i = 0; i < MAX_THINGS && next != NONE; i++) {
                highest = next;
                next = onTop(next);
            }
            return highest;
        }

        boolean standsOver(int y, int x) {
            int below = placeOf(y);
            for (int i = 0; i < MAX_THINGS && has(below); i++) {
                if (below == x) {
                    return true;
                }
                below = places[below];
            }
            return false;
        }

        boolean allows(int kind, int x) {
            switch (kind) {
                case ACT_TAKE:
                    return held == NONE && has(x) && sorts[x] != BOX && onTop(x) == NONE;
                case ACT_ON:
                    return held != NONE && held != x && isSort(x, BLOCK) && onTop(x) == NONE;
                case ACT_DOWN:
                    return held != NONE && x == NONE;
                case ACT_IN:
                    return held != NONE && isSort(x, BOX);
                default:
                    return false;
            }
        }

        int perform(int kind, int x, int cause, int number) {
            if (events >= MAX_EVENTS || !allows(kind, x)) {
                return NONE;
            }
            int moved = kind == ACT_TAKE ? x : held;
            int to = kind == ACT_TAKE ? HAND : kind == ACT_DOWN ? TABLE : x;
            int at = events * EVENT_PARTS;
            log[at] = kind;
            log[at + EVENT_THING] = moved;
            log[at + EVENT_TO] = to;
            log[at + 3] = cause;
            log[at + EVENT_SAYING] = number;
            log[at + EVENT_FROM] = placeOf(moved);
            events++;
            move(moved, to);
            return events - 1;
        }

        private void move(int x, int to) {
            if (has(x)) {
                places[x] = to;
                held = to == HAND ? x : NONE;
            }
        }

        int takeBack() {
            if (events == 0) {
                return NONE;
            }
            events--;
            int at = events * EVENT_PARTS;
            move(log[at + EVENT_THING], log[at + EVENT_FROM]);
            return events;
        }

        int partOfEvent(int e, int part) {
            if (e < 0 || e >= events || part < 0 || part >= EVENT_PARTS) {
                return NONE;
            }
            return log[e * EVENT_PARTS + part];
        }

        int placeBehind(int x, int e) {
            if (!has(x) || e < 0 || e >= events) {
                return NONE;
            }
            for (int i = e; i >= 0; i--) {
                if (log[i * EVENT_PARTS + EVENT_THING] == x) {
                    return log[i * EVENT_PARTS + EVENT_TO];
                }
            }
            return TABLE;
        }

        int eventsOf(int number) {
            int of = 0;
            for (int e = 0; e < events; e++) {
                if (log[e * EVENT_PARTS + EVENT_SAYING] == number) {
                    of++;
                }
            }
            return of;
        }

        int lastMoved() {
            return partOfEvent(events - 1, EVENT_THING);
        }

        int allOf(int word) {
            int set = 0;
            for (int x = 0; x < things; x++) {
                if (word == WORD_THING || sorts[x] == word - WORD_BLOCK) {
                    set |= 1 << x;
                }
            }
            return set;
        }

        boolean looks(int x, int adjective) {
            if (x < 0 || x >= things) {
                return false;
            }
            if (adjective == WORD_BIG || adjective == WORD_SMALL) {
                return (sizes[x] >= SMALLEST_BIG) == (adjective == WORD_BIG);
            }
            return colours[x] == adjective - WORD_RED;
        }

        /** Of a set, those that are on, in or under one of the others. */
        int related(int set, int relation, int others) {
            int bearing = relation == WORD_IN ? BOX : BLOCK;
            int found = 0;
            for (int upper = 0; upper < things; upper++) {
                int lower = places[upper];
                if (isSort(lower, bearing)) {
                    int other = relation == WORD_UNDER ? upper : lower;
                    int one = relation == WORD_UNDER ? lower : upper;
                    found |= (others >> other & 1) << one;
                }
            }
            return set & found;
        }
    }

    /** The NPS and ONWARDS of a saying or of a word told; ONWARD i leads to NP i + 1. */
    private static final class Phrase {
        private final int[] kinds = new int[MAX_NPS];
        private final int[] looks = new int[MAX_NPS];
        private final int[] nouns = new int[MAX_NPS];
        private final int[] relations = new int[MAX_ONWARDS];
        private int nps;
        private int onwards;

        int nps() {
            return nps;
        }

        int onwards() {
            return onwards;
        }

        void clear() {
            nps = 0;
            onwards = 0;
        }

        /** NONE as the kind: an N without the or a. */
        void addNp(int kind) {
            if (nps < MAX_NPS) {
                kinds[nps] = kind;
                looks[nps] = 0;
                nouns[nps] = NONE;
                nps++;
            }
        }

        void addAdjective(int word) {
            if (nps > 0) {
                looks[nps - 1] |= 1 << word;
            }
        }

        void setNoun(int word) {
            if (nps > 0) {
                nouns[nps - 1] = word;
            }
        }

        void addOnward(int word) {
            if (onwards < MAX_ONWARDS) {
                relations[onwards] = word;
                onwards++;
            }
        }

        int kind(int k) {
            return k >= 0 && k < nps ? kinds[k] : NONE;
        }

        boolean hasLook(int k, int word) {
            return k >= 0 && k < nps && (looks[k] >> word & 1) != 0;
        }

        int nounOf(int k) {
            return k >= 0 && k < nps ? nouns[k] : NONE;
        }

        int relation(int i) {
            return i >= 0 && i < onwards ? relations[i] : NONE;
        }

        int lastNoun() {
            for (int k = nps - 1; k >= 0; k--) {
                if (nouns[k] != NONE && nouns[k] != WORD_ONE) {
                    return nouns[k];
                }
            }
            return NONE;
        }

        Phrase copy() {
            Phrase other = new Phrase();
            System.arraycopy(kinds, 0, other.kinds, 0, MAX_NPS);
            System.arraycopy(looks, 0, other.looks, 0, MAX_NPS);
            System.arraycopy(nouns, 0, other.nouns, 0, MAX_NPS);
            System.arraycopy(relations, 0, other.relations, 0, MAX_ONWARDS);
            other.nps = nps;
            other.onwards = onwards;
            return other;
        }
    }

    /** All readings, a row each: four bits for each ONWARD, the first highest, so that rows are in their order. */
    private static final class Readings {
        private static final int FIRST_SHIFT = 4 * (MAX_ONWARDS - 1);

        private int[] rows = new int[MAX_ROWS];
        private int[] spare = new int[MAX_ROWS];
        private int size;
        private int onwards;

        int size() {
            return size;
        }

        int row(int r) {
            return r >= 0 && r < size ? rows[r] : 0;
        }

        static int ownerOf(int row, int i) {
            return row >> FIRST_SHIFT - 4 * i & 15;
        }

        void restart() {
            rows[0] = 0;
            size = 1;
            onwards = 0;
        }

        /** Lets one more ONWARD belong wherever it can; false: it can nowhere. */
        boolean extend(Phrase phrase, boolean canBePlace) {
            int next = 0;
            for (int r = 0; r < size; r++) {
                int open = openOwners(phrase, rows[r], canBePlace);
                for (int owner = 0; owner <= MAX_ONWARDS; owner++) {
                    if ((open >> owner & 1) != 0 && next < MAX_ROWS) {
                        spare[next] = rows[r] | owner << FIRST_SHIFT - 4 * onwards;
                        next++;
                    }
                }
            }
            int[] full = spare;
            spare = rows;
            rows = full;
            size = next;
            onwards++;
            return size > 0;
        }

        /** Only the newest NP and those that it belongs to are open: whatever else would cross. */
        private int openOwners(Phrase phrase, int row, boolean canBePlace) {
            int open = 0;
            int np = onwards;
            for (int i = 0; i < MAX_NPS && np >= 0; i++) {
                if (phrase.nounOf(np) != NONE) {
                    open |= 1 << np + 1;
                }
                if (np == 0) {
                    return canBePlace ? open | 1 : open;
                }
                np = ownerOf(row, np - 1) - 1;
            }
            return open;
        }

        /** Which ONWARD of a row is the PLACE, NONE: no one is. */
        int placeOnward(int row) {
            for (int i = 0; i < onwards; i++) {
                if (ownerOf(row, i) == 0) {
                    return i;
                }
            }
            return NONE;
        }

        /** Keeps the rows with a PLACE, or those without one; false: there are none. */
        boolean keep(boolean withPlace) {
            int kept = 0;
            for (int r = 0; r < size; r++) {
                if ((placeOnward(rows[r]) != NONE) == withPlace) {
                    rows[kept] = rows[r];
                    kept++;
                }
            }
            size = kept;
            return size > 0;
        }
    }

    /** The words known: those of the document and those told. */
    private static final class Words {
        private final int[] letters = new int[MAX_TOLD * LONGEST_W];
        private final int[] lengths = new int[MAX_TOLD];
        private final Phrase[] phrases = new Phrase[MAX_TOLD];
        private final int[] rows = new int[MAX_TOLD];
        private final int[] ones = new int[MAX_TOLD];
        private int told;

        int told() {
            return told;
        }

        Phrase phrase(int k) {
            return k >= 0 && k < told ? phrases[k] : null;
        }

        int row(int k) {
            return k >= 0 && k < told ? rows[k] : 0;
        }

        /** The noun that one was when the word was told. */
        int oneOf(int k) {
            return k >= 0 && k < told ? ones[k] : NONE;
        }

        void tell(Saying saying, int one) {
            if (told >= MAX_TOLD) {
                return;
            }
            lengths[told] = saying.wLength();
            for (int i = 0; i < LONGEST_W; i++) {
                letters[told * LONGEST_W + i] = saying.wLetter(i);
            }
            phrases[told] = saying.phrase.copy();
            rows[told] = saying.readings.row(0);
            ones[told] = one;
            told++;
        }

        int find(Tape tape, int start, int end) {
            int known = findBasic(tape, start, end);
            for (int k = 0; k < told && known == NONE; k++) {
                if (isTold(k, tape, start, end)) {
                    known = WORD_TOLD + k;
                }
            }
            return known;
        }

        private static int findBasic(Tape tape, int start, int end) {
            int word = 0;
            int at = start;
            boolean same = true;
            for (int p = 0; p <= WORDS.length(); p++) {
                int sign = p < WORDS.length() ? WORDS.charAt(p) : BLANK;
                if (sign != BLANK) {
                    same = same && at < end && tape.byteAt(at) == sign;
                    at++;
                } else if (same && at == end) {
                    return word;
                } else {
                    word++;
                    at = start;
                    same = true;
                }
            }
            return NONE;
        }

        private boolean isTold(int k, Tape tape, int start, int end) {
            if (k < 0 || k >= told || lengths[k] != end - start) {
                return false;
            }
            for (int i = 0; i < lengths[k] && i < LONGEST_W; i++) {
                if (letters[k * LONGEST_W + i] != tape.byteAt(start + i)) {
                    return false;
                }
            }
            return true;
        }
    }

    /** The saying at hand, and how it is heard word by word. */
    private static final class Saying {
        private static final int WANT_VERB = 0;
        private static final int WANT_OWN = 1;
        private static final int WANT_MEANS = 2;
        private static final int WANT_NP = 3;
        private static final int WANT_NO_OR_N = 4;
        private static final int WANT_N = 5;
        private static final int WANT_MORE = 6;
        private static final int WANT_END = 7;

        private final Phrase phrase = new Phrase();
        private final Readings readings = new Readings();
        private final int[] w = new int[LONGEST_W];
        private int wLength;
        private int verb;
        private int wanted;
        private boolean denies;
        private boolean goesDown;
        private boolean atHand;

        boolean atHand() {
            return atHand;
        }

        void putAway() {
            atHand = false;
        }

        boolean hasReading(int r) {
            return atHand && r >= 0 && r < readings.size();
        }

        int verb() {
            return verb;
        }

        boolean denies() {
            return denies;
        }

        boolean goesDown() {
            return goesDown;
        }

        boolean isBidden() {
            return verb == WORD_PUT || verb == WORD_TAKE || verb == WORD_DROP;
        }

        boolean isAsked() {
            return verb == WORD_IS || verb == WORD_MANY || verb == WORD_WHICH;
        }

        int wLength() {
            return wLength;
        }

        int wLetter(int i) {
            return i >= 0 && i < wLength && i < LONGEST_W ? w[i] : 0;
        }

        int size(int what) {
            switch (what) {
                case 8:
                    return phrase.nps();
                case 9:
                    return phrase.onwards();
                case 10:
                    return readings.size();
                default:
                    return NONE;
            }
        }

        int hear(Tape tape, int n, Words words) {
            restart();
            int start = 0;
            for (int i = 0; i <= n; i++) {
                if (i < n && tape.isLetter(i)) {
                    continue;
                }
                if (i < n && !endsWord(tape, start, i)) {
                    return faultAt(FAULT_BYTE, i);
                }
                int fault = hearWord(tape, start, i, n, words);
                if (fault != 0) {
                    return faultAt(fault, start);
                }
                // Only now, for the word that a blank at the end stands behind is further left.
                if (i == n - 1) {
                    return faultAt(FAULT_BYTE, i);
                }
                start = i + 1;
            }
            if (!canEnd()) {
                return faultAt(FAULT_ORDER, n);
            }
            atHand = true;
            return readings.size();
        }

        private static int faultAt(int fault, int place) {
            return -FAULT_UNIT * fault - place;
        }

        private void restart() {
            phrase.clear();
            readings.restart();
            wLength = 0;
            verb = NONE;
            wanted = WANT_VERB;
            denies = false;
            goesDown = false;
            atHand = false;
        }

        private static boolean endsWord(Tape tape, int start, int i) {
            return tape.byteAt(i) == BLANK && i > start;
        }

        private int hearWord(Tape tape, int start, int end, int n, Words words) {
            int word = words.find(tape, start, end);
            boolean isW = start == 0 && meansStands(tape, end + 1, n, words);
            if (word == NONE) {
                if (!isW || end < SHORTEST_W || end > LONGEST_W) {
                    return FAULT_UNKNOWN;
                }
                keepW(tape, end);
                return 0;
            }
            if (isOnward(word) && phrase.onwards() >= MAX_ONWARDS) {
                return FAULT_SEVENTH;
            }
            if (isW) {
                return FAULT_W_KNOWN;
            }
            return goOn(word) ? 0 : FAULT_ORDER;
        }

        private static boolean meansStands(Tape tape, int start, int n, Words words) {
            int end = start + 5;
            if (end > n || end < n && tape.byteAt(end) != BLANK) {
                return false;
            }
            return words.find(tape, start, end) == WORD_MEANS;
        }

        private void keepW(Tape tape, int end) {
            for (int i = 0; i < end && i < LONGEST_W; i++) {
                w[i] = tape.byteAt(i);
            }
            wLength = end;
            wanted = WANT_MEANS;
        }

        private static boolean isOnward(int word) {
            return word == WORD_ON || word == WORD_IN || word == WORD_UNDER;
        }

        private boolean goOn(int word) {
            switch (wanted) {
                case WANT_VERB:
                    return begin(word);
                case WANT_OWN:
                    return word == WORD_OWN && beginBare(WORD_OWN, WANT_NO_OR_N);
                case WANT_MEANS:
                    return word == WORD_MEANS && beginBare(WORD_MEANS, WANT_N);
                case WANT_NP:
                    return goOnNp(word);
                case WANT_NO_OR_N:
                    denies = word == WORD_NO;
                    wanted = WANT_N;
                    return denies || goOnN(word);
                case WANT_N:
                    return goOnN(word);
                case WANT_MORE:
                    return goOnBehindNp(word);
                default:
                    return false;
            }
        }

        private boolean begin(int word) {
            verb = word;
            switch (word) {
                case WORD_PUT:
                case WORD_TAKE:
                case WORD_IS:
                    wanted = WANT_NP;
                    return true;
                case WORD_DROP:
                    wanted = WANT_END;
                    return true;
                case WORD_MANY:
                case WORD_WHICH:
                    return beginBare(word, WANT_N);
                case WORD_I:
                    wanted = WANT_OWN;
                    return true;
                default:
                    return false;
            }
        }

        private boolean beginBare(int asVerb, int next) {
            verb = asVerb;
            phrase.addNp(NONE);
            wanted = next;
            return true;
        }

        private boolean goOnNp(int word) {
            if (word < WORD_THE || word > WORD_THAT) {
                return false;
            }
            phrase.addNp(word);
            wanted = word == WORD_THE || word == WORD_A ? WANT_N : WANT_MORE;
            return true;
        }

        private boolean goOnN(int word) {
            if (word >= WORD_RED && word <= WORD_SMALL) {
                phrase.addAdjective(word);
                wanted = WANT_N;
                return true;
            }
            if (word > WORD_ONE && word < WORD_TOLD) {
                return false;
            }
            phrase.setNoun(word);
            wanted = WANT_MORE;
            return true;
        }

        private boolean goOnBehindNp(int word) {
            if (word == WORD_DOWN) {
                goesDown = true;
                wanted = WANT_END;
                return verb == WORD_PUT && readings.keep(false);
            }
            if (!isOnward(word)) {
                return false;
            }
            boolean canBePlace = verb == WORD_IS || verb == WORD_PUT && word != WORD_UNDER;
            if (!readings.extend(phrase, canBePlace)) {
                return false;
            }
            phrase.addOnward(word);
            wanted = WANT_NP;
            return true;
        }

        private boolean canEnd() {
            if (wanted == WANT_MORE && (verb == WORD_PUT || verb == WORD_IS)) {
                return readings.keep(true);
            }
            return wanted == WANT_MORE || wanted == WANT_END;
        }
    }

    /** What is mentioned, owned, judged and said. */
    private static final class Memory {
        private final int[] mentions = new int[MAX_MENTIONS];
        private int mentionCount;
        private int ownedSet;
        private int deniedSet;
        private int statements;
        private int judged;
        private int otherwise;
        private int firstOtherwise = NONE;
        private int sayings;
        private int lastNoun = NONE;

        int statements() {
            return statements;
        }

        int judged() {
            return judged;
        }

        int otherwise() {
            return otherwise;
        }

        int firstOtherwise() {
            return firstOtherwise;
        }

        int sayings() {
            return sayings;
        }

        int lastNoun() {
            return lastNoun;
        }

        int mentionedBack(int k) {
            return k >= 0 && k < mentionCount ? mentions[mentionCount - 1 - k] : NONE;
        }

        void mentionIfOne(int set) {
            if (Integer.bitCount(set) == 1 && mentionCount < MAX_MENTIONS) {
                mentions[mentionCount] = Integer.numberOfTrailingZeros(set);
                mentionCount++;
            }
        }

        void keepStatement(int set, boolean denied) {
            if (denied) {
                deniedSet |= set;
            } else {
                ownedSet |= set;
            }
            statements++;
        }

        int owning(int x) {
            boolean yes = (ownedSet >> x & 1) != 0;
            boolean no = (deniedSet >> x & 1) != 0;
            if (yes) {
                return no ? 3 : 1;
            }
            return no ? 0 : 2;
        }

        void keepJudged(boolean same) {
            if (!same) {
                otherwise++;
                if (firstOtherwise == NONE) {
                    firstOtherwise = judged;
                }
            }
            judged++;
        }

        void keepDone(int noun) {
            sayings++;
            if (noun != NONE) {
                lastNoun = noun;
            }
        }
    }

    /** What a reading means in the room now, what troubles it, and which reading is taken. */
    private static final class Sense {
        private final Room room;
        private final Words words;
        private final Memory memory;
        private final int[] alone = new int[MAX_NPS];
        private final int[] meant = new int[MAX_NPS];
        private final int[] toldSets = new int[MAX_TOLD];
        private int troubleKind;
        private int troubleNp;
        private int mover;
        private int goal;

        Sense(Room room, Words words, Memory memory) {
            this.room = room;
            this.words = words;
            this.memory = memory;
        }

        int meantBy(int k) {
            return k >= 0 && k < MAX_NPS ? meant[k] : NONE;
        }

        int troubleKind() {
            return troubleKind;
        }

        int troubleNp() {
            return troubleNp;
        }

        int mover() {
            return mover;
        }

        int goal() {
            return goal;
        }

        int meantByTold(int k) {
            refreshTold();
            return k >= 0 && k < MAX_TOLD ? toldSets[k] : NONE;
        }

        void weighOne(Saying saying, int r) {
            refreshTold();
            lookAlone(saying.phrase, memory.lastNoun());
            weigh(saying, r);
        }

        /** The reading taken, ASKED_BACK or NONE_FITS; what it means, moves and where to is kept for the caller. */
        int choose(Saying saying) {
            refreshTold();
            lookAlone(saying.phrase, memory.lastNoun());
            int first = NONE_FITS;
            int firstUpshot = 0;
            for (int r = 0; r < saying.readings.size(); r++) {
                weigh(saying, r);
                if (troubleKind == 0) {
                    int upshot = upshotOf(saying, r);
                    if (first != NONE_FITS && upshot != firstUpshot) {
                        return ASKED_BACK;
                    }
                    if (first == NONE_FITS) {
                        first = r;
                        firstUpshot = upshot;
                    }
                }
            }
            if (first != NONE_FITS) {
                weigh(saying, first);
            }
            return first;
        }

        /** Words told later may use those told earlier: so all are weighed in their order, each once. */
        private void refreshTold() {
            for (int k = 0; k < words.told() && k < MAX_TOLD; k++) {
                toldSets[k] = 0;
                Phrase phrase = words.phrase(k);
                if (phrase != null) {
                    lookAlone(phrase, words.oneOf(k));
                    linkAll(phrase, words.row(k));
                    toldSets[k] = meant[0];
                }
            }
        }

        private void weigh(Saying saying, int r) {
            int row = saying.readings.row(r);
            linkAll(saying.phrase, row);
            troubleNp = NONE;
            mover = NONE;
            goal = NONE;
            for (int k = 0; k < saying.phrase.nps(); k++) {
                troubleKind = troubleOfNp(saying.phrase.kind(k), meantBy(k));
                if (troubleKind != 0) {
                    troubleNp = k;
                    return;
                }
            }
            troubleKind = canBeDone(saying, row) ? 0 : CANT_BE_DONE;
        }

        /** From the last NP back to the first, for what belongs to an NP stands behind it. */
        private void linkAll(Phrase phrase, int row) {
            for (int k = Math.min(phrase.nps(), MAX_NPS) - 1; k >= 0; k--) {
                int set = alone[k];
                for (int i = k; i < phrase.onwards(); i++) {
                    if (Readings.ownerOf(row, i) == k + 1) {
                        set = room.related(set, phrase.relation(i), meantBy(i + 1));
                    }
                }
                meant[k] = set;
            }
        }

        /** What NPS mean without their links is the same by all readings: so it is asked once for all. */
        private void lookAlone(Phrase phrase, int one) {
            for (int k = 0; k < phrase.nps() && k < MAX_NPS; k++) {
                alone[k] = meantAlone(phrase, k, one);
            }
        }

        private int meantAlone(Phrase phrase, int k, int one) {
            switch (phrase.kind(k)) {
                case WORD_IT:
                    return justThis(memory.mentionedBack(0));
                case WORD_THAT:
                    return justThis(room.lastMoved());
                default:
                    int noun = phrase.nounOf(k);
                    return thoseLooking(phrase, k, meantByNoun(noun == WORD_ONE ? one : noun));
            }
        }

        private int justThis(int x) {
            return room.has(x) ? 1 << x : 0;
        }

        private int meantByNoun(int noun) {
            if (noun >= WORD_TOLD && noun < WORD_TOLD + MAX_TOLD) {
                return toldSets[noun - WORD_TOLD];
            }
            return noun >= WORD_THING && noun < WORD_ONE ? room.allOf(noun) : 0;
        }

        private int thoseLooking(Phrase phrase, int k, int set) {
            int kept = set;
            for (int word = WORD_RED; word <= WORD_SMALL; word++) {
                if (phrase.hasLook(k, word)) {
                    for (int x = 0; x < room.things(); x++) {
                        if (!room.looks(x, word)) {
                            kept &= ~(1 << x);
                        }
                    }
                }
            }
            return kept;
        }

        private static int troubleOfNp(int kind, int set) {
            switch (kind) {
                case WORD_THE:
                    return set == 0 ? THE_NONE : Integer.bitCount(set) > 1 ? THE_MANY : 0;
                case WORD_A:
                    return set == 0 ? A_NONE : 0;
                case WORD_IT:
                case WORD_THAT:
                    return set == 0 ? IT_NONE : 0;
                default:
                    return 0;
            }
        }

        private boolean canBeDone(Saying saying, int row) {
            switch (saying.verb()) {
                case WORD_DROP:
                    return room.held() != NONE;
                case WORD_TAKE:
                    mover = lowestToMove(meantBy(0));
                    goal = HAND;
                    return mover != NONE;
                case WORD_PUT:
                    mover = lowestToMove(meantBy(0));
                    goal = saying.goesDown() ? TABLE : goalOf(saying, row);
                    return mover != NONE && goal != NONE;
                default:
                    return true;
            }
        }

        private int lowestToMove(int set) {
            for (int x = 0; x < room.things(); x++) {
                if ((set >> x & 1) != 0 && !room.isSort(x, BOX)) {
                    return x;
                }
            }
            return NONE;
        }

        private int goalOf(Saying saying, int row) {
            int i = saying.readings.placeOnward(row);
            int set = i == NONE ? 0 : meantBy(i + 1);
            int sort = saying.phrase.relation(i) == WORD_ON ? BLOCK : BOX;
            for (int y = 0; y < room.things(); y++) {
                if ((set >> y & 1) != 0 && room.isSort(y, sort) && y != mover && !room.standsOver(y, mover)) {
                    return y;
                }
            }
            return NONE;
        }

        /** What a reading that fits comes to, as one number. */
        private int upshotOf(Saying saying, int r) {
            switch (saying.verb()) {
                case WORD_PUT:
                case WORD_TAKE:
                    return mover * 32 + goal;
                case WORD_OWN:
                    return meantBy(0);
                default:
                    return saying.isAsked() ? answerFor(saying, r) : 0;
            }
        }

        /** The answer by the reading weighed last. */
        int answerFor(Saying saying, int r) {
            switch (saying.verb()) {
                case WORD_MANY:
                    return Integer.bitCount(meantBy(0));
                case WORD_WHICH:
                    return meantBy(0);
                default:
                    int i = saying.readings.placeOnward(saying.readings.row(r));
                    if (i == NONE) {
                        return 0;
                    }
                    return room.related(meantBy(0), saying.phrase.relation(i), meantBy(i + 1)) != 0 ? 1 : 0;
            }
        }
    }

    /** The acts that bring what is bidden: of each its kind, its thing and for what it is done. */
    private static final class Steps {
        private final int[] parts = new int[3 * MAX_PLAN];
        private int length;

        int length() {
            return length;
        }

        void clear() {
            length = 0;
        }

        int part(int what) {
            return what >= 0 && what < 3 * length ? parts[what] : NONE;
        }

        void build(Room room, int verb, int x, int goal) {
            clear();
            if (verb == WORD_DROP) {
                add(ACT_DOWN, NONE, NONE);
            } else if (room.placeOf(x) != goal) {
                bring(room, x, goal);
            }
        }

        private void bring(Room room, int x, int goal) {
            boolean onBlock = room.isSort(goal, BLOCK);
            boolean blocked = onBlock && room.onTop(goal) != NONE;
            boolean keepsHolding = room.held() == x && !blocked;
            if (room.held() != NONE && !keepsHolding) {
                add(ACT_DOWN, NONE, EMPTYING);
            }
            clearOver(room, x, NONE);
            if (onBlock) {
                clearOver(room, goal, x);
            }
            if (!keepsHolding) {
                add(ACT_TAKE, x, NONE);
            }
            if (goal == TABLE) {
                add(ACT_DOWN, NONE, NONE);
            } else if (goal != HAND) {
                add(onBlock ? ACT_ON : ACT_IN, goal, NONE);
            }
        }

        /** Nothing above the thing named last is left there: that was cleared before. */
        private void clearOver(Room room, int base, int last) {
            int top = base;
            for (int i = 0; i < MAX_THINGS && top != last && room.onTop(top) != NONE; i++) {
                top = room.onTop(top);
            }
            for (int i = 0; i < MAX_THINGS && top != base; i++) {
                add(ACT_TAKE, top, base);
                add(ACT_DOWN, NONE, base);
                top = room.placeOf(top);
            }
        }

        private void add(int kind, int x, int cause) {
            if (length < MAX_PLAN) {
                parts[3 * length] = kind;
                parts[3 * length + 1] = x;
                parts[3 * length + 2] = cause;
                length++;
            }
        }
    }
}
