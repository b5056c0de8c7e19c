/**
 * A safe with dials in rooms that opens when the mean, the middle one or the greatest of all dials
 * is its number, and the people who set those dials by what they have been told.
 */
public final class MeanSafe {
    public static final int BAD = -1000000001, NO = -1000000002, FULL = -1000000003,
            NONE = -1000000005, NOTHING = -1000000011, KIND = -1000000012, INDEX = -1000000013,
            SIZE = -1000000014;

    private static final int PEOPLE_MOST = 8;
    private static final int NUMBERS = 100;
    private static final int TRIES_MOST = 9999;
    private static final int THOUGHT_MOST = 12;
    private static final int NEVER = THOUGHT_MOST + 1;

    private static final int HALF = 0, SLOW = 1, TELLER = 2, STILL = 3, SHOUTER = 4, FOE = 5;
    private static final int KINDS = 6;
    /** For each kind the one right above it; -1 above the topmost. */
    private static final int[] ABOVE = {-1, HALF, HALF, SLOW, TELLER, HALF};

    private static final int MEAN = 0, MIDDLE = 1;

    private static final int LAW_OF_SET = 0, LAW_OF_FEE = 1, LAW_OF_FINE = 2;
    private static final int KEYS = 3;
    private static final int TEXTS_MOST = 14;
    private static final int TAPE_MOST = 96;

    private static final int SHEETS = 4, PLACES_MOST = 24, SLOTS = 5;
    private static final int MISSING = -1, SHORTS = 0, FLOATS = 1;
    private static final int FLOAT_MOST = 99999;
    private static final int HOLDS_NOTHING = 0, HOLDS_ONE = 1, HOLDS_SHEET = 2, HOLDS_NUMBER = 3;

    private static final int WAIT_MOST = 60, CHECK_MOST = 30;

    private final Texts texts = new Texts();
    private final World now = new World(texts);
    private final World image = new World(texts);
    private final Thought thought = new Thought(texts);
    private final Tape tape = new Tape();
    private final Reader reader = new Reader(tape);
    private final Sheet[] sheets = new Sheet[SHEETS];
    private final Slot[] slots = new Slot[SLOTS];
    private final int[] waits = new int[WAIT_MOST];
    private int waiting = 0;
    private boolean kept = false;

    public MeanSafe() {
        for (int i = 0; i < SHEETS; i++) {
            sheets[i] = new Sheet();
        }
        for (int i = 0; i < SLOTS; i++) {
            slots[i] = new Slot();
        }
    }

    // ---- people

    public int person(int kind, int dial, int weight) {
        if (!isKind(kind) || !Person.mayBe(Person.DIAL, dial)
                || !Person.mayBe(Person.WEIGHT, weight)) {
            return BAD;
        }
        if (now.size >= PEOPLE_MOST) {
            return FULL;
        }
        return now.welcome(kind, dial, weight, 0);
    }

    public int told(int one, int what) {
        if (!isOne(one)) {
            return BAD;
        }
        Person p = now.people[one];
        switch (what) {
            case 0: return p.kind;
            case 4: return p.low;
            case 5: return p.high;
            case 7: return p.setting(texts, now.lawOf(LAW_OF_SET));
            case 8: return p.worth();
            default: return Person.isTrait(what) ? p.trait(what) : BAD;
        }
    }

    public int as(int one, int kind) {
        if (!isOne(one) || !isKind(kind)) {
            return BAD;
        }
        Person p = now.people[one];
        return p.isOf(kind) ? p.dial : KIND;
    }

    public int turns(int one, int kind) {
        if (!isOne(one) || !isKind(kind)) {
            return BAD;
        }
        Person p = now.people[one];
        int was = p.kind;
        p.kind = kind;
        return was;
    }

    public int set(int one, int what, int v) {
        if (!isOne(one) || !Person.mayBe(what, v)) {
            return BAD;
        }
        Person p = now.people[one];
        int was = p.trait(what);
        p.change(what, v);
        return was;
    }

    public int forget() {
        int otherwise = 0;
        for (int i = 0; i < now.size; i++) {
            Person p = now.people[i];
            if (p.low != 0 || p.high != NUMBERS - 1) {
                otherwise++;
            }
            p.believeAll();
        }
        return otherwise;
    }

    public int deal(int n) {
        if (n < 1 || n > PEOPLE_MOST) {
            return BAD;
        }
        int room = PEOPLE_MOST - now.size;
        int many = Math.min(n, room);
        for (int i = 0; i < many; i++) {
            now.drawOne();
        }
        return many;
    }

    public int seed(int v) {
        int was = now.z;
        now.z = v;
        return was;
    }

    // ---- the safe

    public int safe(int what, int v) {
        if (!World.mayBe(what, v)) {
            return BAD;
        }
        int was = now.part(what);
        now.change(what, v);
        return was;
    }

    public int says() {
        return now.voice();
    }

    public int tries(int n) {
        if (n < 1 || n > 100) {
            return BAD;
        }
        int many = 0;
        while (many < n && now.tried < TRIES_MOST && now.attempt()) {
            many++;
        }
        return many;
    }

    // ---- what will be

    public int needs(int number) {
        if (number < 0 || number >= NUMBERS) {
            return BAD;
        }
        thought.begin(now);
        int needed = thought.ponder(number, number);
        return needed == NEVER ? NONE : needed;
    }

    public int worst(int what) {
        if (what < 0 || what > 1) {
            return BAD;
        }
        thought.begin(now);
        thought.ponder(0, NUMBERS - 1);
        int worst = 0;
        for (int k = 1; k < NUMBERS; k++) {
            if (thought.needed[k] > thought.needed[worst]) {
                worst = k;
            }
        }
        return what == 0 ? worst : thought.needed[worst];
    }

    public int had(int b) {
        if (b < 0 || b > THOUGHT_MOST) {
            return BAD;
        }
        thought.begin(now);
        thought.ponder(0, NUMBERS - 1);
        int many = 0;
        for (int k = 0; k < NUMBERS; k++) {
            if (thought.needed[k] <= b) {
                many++;
            }
        }
        return many;
    }

    public int start(int one, int what) {
        if (!isOne(one) || what < 0 || what > 1) {
            return BAD;
        }
        int best = NONE;
        int least = NONE;
        for (int dial = 0; dial < NUMBERS; dial += 10) {
            World w = thought.begin(now);
            w.people[one].dial = dial;
            int together = thought.ponder(0, NUMBERS - 1);
            if (best == NONE || together < least) {
                least = together;
                best = dial;
            }
        }
        return what == 0 ? best : least;
    }

    public int tells(int what) {
        if (what < 0 || what > 1) {
            return BAD;
        }
        int best = NONE;
        int least = NONE;
        for (int one = 0; one < now.size; one++) {
            thought.begin(now).onlyHears(one);
            int together = thought.ponder(0, NUMBERS - 1);
            if (best == NONE || together < least) {
                least = together;
                best = one;
            }
        }
        return what == 0 ? best : least;
    }

    public int keeps(int one) {
        if (!isOne(one)) {
            return BAD;
        }
        thought.begin(now);
        int asItIs = thought.ponder(now.number, now.number);
        World w = thought.begin(now);
        w.people[one].kind = FOE;
        return thought.ponder(now.number, now.number) - asItIs;
    }

    public int behind(int one, int n, int what) {
        if (!isOne(one) || n < 0 || n > 100 || what < 0 || what > 3) {
            return BAD;
        }
        World w = thought.begin(now);
        for (int i = 0; i < n; i++) {
            w.attempt();
        }
        switch (what) {
            case 0: return w.voice();
            case 1: return w.people[one].dial;
            case 2: return w.number;
            default: return w.open ? 1 : 0;
        }
    }

    public int left(int sheet, int what) {
        if (!isSheet(sheet) || what < 0 || what > 1) {
            return BAD;
        }
        Sheet answers = sheets[sheet];
        if (answers.sort == MISSING) {
            return NOTHING;
        }
        int many = 0;
        int least = NONE;
        for (int k = NUMBERS - 1; k >= 0 && now.size > 0; k--) {
            if (thought.begin(now).wouldAnswer(k, answers)) {
                many++;
                least = k;
            }
        }
        return what == 0 ? many : least;
    }

    public int fee() {
        int law = now.lawOf(LAW_OF_FEE);
        return law < 0 ? now.tried : texts.give(law, now.tried, now.bolts, 0);
    }

    public int fine(int one) {
        if (!isOne(one)) {
            return BAD;
        }
        Person p = now.people[one];
        int law = now.lawOf(LAW_OF_FINE);
        return law < 0 ? p.weight : texts.give(law, p.weight, p.dial, 0);
    }

    // ---- texts

    public int feed(int a, int b, int c) {
        if (tape.length + 12 > TAPE_MOST) {
            return FULL;
        }
        tape.take(a);
        tape.take(b);
        tape.take(c);
        return tape.length;
    }

    public int trim(int n) {
        if (n < 0 || n > tape.length) {
            return BAD;
        }
        tape.length = n;
        return n;
    }

    public int text() {
        boolean whole = reader.readsWhole();
        tape.length = 0;
        if (!whole) {
            return -100 - reader.start;
        }
        if (now.textCount >= TEXTS_MOST) {
            return FULL;
        }
        texts.all[now.textCount].write(reader);
        return now.addText();
    }

    public int textTold(int text, int what) {
        if (text < 0 || text >= now.textCount || what < 0 || what > 1) {
            return BAD;
        }
        return what == 0 ? texts.all[text].key : texts.all[text].leaves;
    }

    public int why(int key) {
        if (key < 0 || key >= KEYS) {
            return BAD;
        }
        int law = now.lawOf(key);
        return law < 0 ? NONE : law;
    }

    // ---- sheets, slots

    public int sheet(int sheet, int sort, int n) {
        if (!isSheet(sheet) || sort < MISSING || sort > FLOATS) {
            return BAD;
        }
        if (sort == MISSING) {
            sheets[sheet].become(MISSING, 0);
            return 0;
        }
        if (n > PLACES_MOST) {
            return BAD;
        }
        if (n < 0) {
            return SIZE;
        }
        sheets[sheet].become(sort, n);
        return n;
    }

    public int mark(int sheet, int place, int v) {
        if (!isSheet(sheet)) {
            return BAD;
        }
        Sheet row = sheets[sheet];
        if (row.sort == MISSING) {
            return NOTHING;
        }
        if (!row.hasPlace(place)) {
            return INDEX;
        }
        if (row.sort == SHORTS) {
            if (v == NONE) {
                return KIND;
            }
            row.places[place] = (short) v;
            return 1;
        }
        if (v != NONE && (v < -FLOAT_MOST || v > FLOAT_MOST)) {
            return BAD;
        }
        row.places[place] = v;
        return 1;
    }

    public int pour(int sheet) {
        if (!isSheet(sheet)) {
            return BAD;
        }
        Sheet row = sheets[sheet];
        if (row.sort == MISSING) {
            return NOTHING;
        }
        int otherwise = 0;
        for (int i = 0; i < now.size && i < row.size; i++) {
            Person p = now.people[i];
            int dial = row.places[i] == NONE ? p.dial : held(row.places[i]);
            if (dial != p.dial) {
                otherwise++;
            }
            p.dial = dial;
        }
        return otherwise;
    }

    public int reads(int sheet) {
        if (!isSheet(sheet)) {
            return BAD;
        }
        Sheet row = sheets[sheet];
        if (row.sort == MISSING) {
            return NOTHING;
        }
        thought.begin(now);
        thought.ponder(0, row.size - 1);
        for (int k = 0; k < row.size; k++) {
            if (row.places[k] != NONE && row.places[k] != thought.needed[k]) {
                return k;
            }
        }
        return NONE;
    }

    public int copy(int from, int place, int to, int at, int many) {
        if (!isSheet(from) || !isSheet(to)) {
            return BAD;
        }
        Sheet source = sheets[from];
        Sheet target = sheets[to];
        if (source.sort == MISSING || target.sort == MISSING) {
            return NOTHING;
        }
        if (source.sort != target.sort) {
            return KIND;
        }
        if (!source.hasRun(place, many) || !target.hasRun(at, many)) {
            return INDEX;
        }
        System.arraycopy(source.places, place, target.places, at, many);
        return many;
    }

    public int lay(int slot, int thing, int k) {
        if (!isSlot(slot) || thing < HOLDS_NOTHING || thing > HOLDS_NUMBER
                || (thing == HOLDS_ONE && !isOne(k)) || (thing == HOLDS_SHEET && !isSheet(k))) {
            return BAD;
        }
        if (thing == HOLDS_SHEET && sheets[k].sort == MISSING) {
            return NOTHING;
        }
        Slot s = slots[slot];
        int was = s.thing;
        s.thing = thing;
        if (thing == HOLDS_ONE) {
            s.one.become(now.people[k]);
        } else if (thing == HOLDS_SHEET) {
            s.sheet.become(sheets[k]);
        } else {
            s.number = k;
        }
        return was;
    }

    public int ask(int slot, int kind) {
        if (!isSlot(slot) || !isKind(kind)) {
            return BAD;
        }
        Slot s = slots[slot];
        if (s.thing == HOLDS_NOTHING) {
            return NOTHING;
        }
        if (s.thing != HOLDS_ONE || !s.one.isOf(kind)) {
            return KIND;
        }
        return s.one.worth();
    }

    public int item(int slot, int place) {
        if (!isSlot(slot)) {
            return BAD;
        }
        Slot s = slots[slot];
        if (s.thing == HOLDS_NOTHING) {
            return NOTHING;
        }
        if (s.thing != HOLDS_SHEET) {
            return KIND;
        }
        if (!s.sheet.hasPlace(place)) {
            return INDEX;
        }
        return s.sheet.places[place] == NONE ? KIND : s.sheet.places[place];
    }

    public int rest(int slot, int n) {
        if (!isSlot(slot)) {
            return BAD;
        }
        Slot s = slots[slot];
        if (s.thing == HOLDS_NOTHING) {
            return NOTHING;
        }
        if (s.thing != HOLDS_NUMBER) {
            return KIND;
        }
        return n == 0 ? NO : s.number % n;
    }

    // ---- rows, images

    public int tell(int v) {
        if (waiting >= WAIT_MOST) {
            return FULL;
        }
        waits[waiting] = v;
        waiting++;
        return waiting;
    }

    public int check(int n) {
        int many = waiting;
        waiting = 0;
        if (n < 1 || n > CHECK_MOST) {
            return BAD;
        }
        if (!kept) {
            return NO;
        }
        World w = thought.begin(image);
        for (int i = 0; i < n; i++) {
            w.attempt();
            int at = 2 * i;
            if (at >= many || waits[at] != w.voice()) {
                return 1 + at;
            }
            at++;
            if (at >= many || waits[at] != (w.open ? 1 : 0)) {
                return 1 + at;
            }
        }
        return many > 2 * n ? 1 + 2 * n : 0;
    }

    public int keep() {
        image.become(now);
        kept = true;
        return image.size;
    }

    public int back() {
        if (!kept) {
            return NO;
        }
        now.become(image);
        return now.size;
    }

    public int count(int what) {
        switch (what) {
            case 0: return now.size;
            case 1: return now.tried;
            case 2: return now.part(World.NUMBER);
            case 3: return now.part(World.LAW);
            case 4: return now.part(World.DRIFT);
            case 5: return now.part(World.BOLTS);
            case 6: return now.part(World.OPEN);
            case 7: return now.whoHear();
            case 8: return now.textCount;
            case 9: return waiting;
            case 10: return tape.length;
            case 11: return now.z;
            default: return BAD;
        }
    }

    private boolean isOne(int one) {
        return one >= 0 && one < now.size;
    }

    private static boolean isKind(int kind) {
        return kind >= 0 && kind < KINDS;
    }

    private static boolean isSheet(int sheet) {
        return sheet >= 0 && sheet < SHEETS;
    }

    private static boolean isSlot(int slot) {
        return slot >= 0 && slot < SLOTS;
    }

    private static int held(int v) {
        return Math.max(0, Math.min(NUMBERS - 1, v));
    }

    /** One of the people: its traits, and what it does by its kind. */
    private static final class Person {
        static final int DIAL = 1, WEIGHT = 2, BIAS = 3, HEARS = 6;

        int kind;
        int dial;
        int weight;
        int bias;
        int low;
        int high;
        boolean hears;

        static boolean isTrait(int what) {
            return what == DIAL || what == WEIGHT || what == BIAS || what == HEARS;
        }

        static boolean mayBe(int what, int v) {
            switch (what) {
                case DIAL: return v >= 0 && v < NUMBERS;
                case WEIGHT: return v >= 1 && v <= 9;
                case BIAS: return v >= -20 && v <= 20;
                case HEARS: return v == 0 || v == 1;
                default: return false;
            }
        }

        int trait(int what) {
            switch (what) {
                case DIAL: return dial;
                case WEIGHT: return weight;
                case BIAS: return bias;
                default: return hears ? 1 : 0;
            }
        }

        void change(int what, int v) {
            switch (what) {
                case DIAL: dial = v; break;
                case WEIGHT: weight = v; break;
                case BIAS: bias = v; break;
                default: hears = v == 1;
            }
        }

        void become(Person other) {
            kind = other.kind;
            dial = other.dial;
            weight = other.weight;
            bias = other.bias;
            low = other.low;
            high = other.high;
            hears = other.hears;
        }

        void believeAll() {
            low = 0;
            high = NUMBERS - 1;
        }

        boolean isOf(int wanted) {
            int k = kind;
            for (int i = 0; i < KINDS && k >= 0 && k < KINDS; i++) {
                if (k == wanted) {
                    return true;
                }
                k = ABOVE[k];
            }
            return false;
        }

        int worth() {
            switch (kind) {
                case SLOW: return weight + 10;
                case STILL: return 2 * (weight + 10);
                case TELLER: return 50 - bias;
                case SHOUTER: return 50 - bias - 3;
                case FOE: return 1;
                default: return weight;
            }
        }

        int setting(Texts texts, int law) {
            if (kind == STILL) {
                return dial;
            }
            int half = held(law < 0 ? (low + high) / 2 : texts.give(law, low, high, dial));
            switch (kind) {
                case SLOW: return (dial + half) / 2;
                case TELLER: return held(half + bias);
                case SHOUTER: return held(held(half + bias) + bias);
                case FOE: return half >= 50 ? 0 : NUMBERS - 1;
                default: return half;
            }
        }

        void hear(int said, boolean tooMuch) {
            if (!hears) {
                return;
            }
            if (tooMuch) {
                high = held(said - 1);
            } else {
                low = held(said + 1);
            }
            if (low > high) {
                believeAll();
            }
        }
    }

    /** All that an image keeps: the safe, its people, z, and which texts there are. */
    private static final class World {
        static final int NUMBER = 0, LAW = 1, DRIFT = 2, BOLTS = 3, OPEN = 4;

        private final Texts texts;
        final Person[] people = new Person[PEOPLE_MOST];
        int size = 0;
        int number = 0;
        private int law = MEAN;
        private int drift = 0;
        int bolts = 99;
        boolean open = false;
        int tried = 0;
        int z = 1;
        int textCount = 0;
        /** For each key the text that counts, or -1. */
        private final int[] laws = new int[KEYS];

        World(Texts texts) {
            this.texts = texts;
            for (int i = 0; i < PEOPLE_MOST; i++) {
                people[i] = new Person();
            }
            for (int i = 0; i < KEYS; i++) {
                laws[i] = -1;
            }
        }

        // Texts are only added, and coming back to an image only takes the later ones away, so
        // the texts themselves need no copy: how many there are tells which.
        void become(World other) {
            size = other.size;
            for (int i = 0; i < size; i++) {
                people[i].become(other.people[i]);
            }
            number = other.number;
            law = other.law;
            drift = other.drift;
            bolts = other.bolts;
            open = other.open;
            tried = other.tried;
            z = other.z;
            textCount = other.textCount;
            for (int i = 0; i < KEYS; i++) {
                laws[i] = other.laws[i];
            }
        }

        static boolean mayBe(int what, int v) {
            switch (what) {
                case NUMBER: return v >= 0 && v < NUMBERS;
                case LAW: return v >= 0 && v <= 2;
                case DRIFT: return v >= -5 && v <= 5;
                case BOLTS: return v >= 0 && v <= 99;
                case OPEN: return v == 0 || v == 1;
                default: return false;
            }
        }

        int part(int what) {
            switch (what) {
                case NUMBER: return number;
                case LAW: return law;
                case DRIFT: return drift;
                case BOLTS: return bolts;
                default: return open ? 1 : 0;
            }
        }

        void change(int what, int v) {
            switch (what) {
                case NUMBER: number = v; break;
                case LAW: law = v; break;
                case DRIFT: drift = v; break;
                case BOLTS: bolts = v; break;
                default: open = v == 1;
            }
        }

        int lawOf(int key) {
            return key >= 0 && key < KEYS ? laws[key] : -1;
        }

        int addText() {
            int added = textCount;
            int key = texts.all[added].key;
            if (key >= 0 && key < KEYS) {
                laws[key] = added;
            }
            textCount++;
            return added;
        }

        int welcome(int kind, int dial, int weight, int bias) {
            int one = size;
            Person p = people[one];
            p.kind = kind;
            p.dial = dial;
            p.weight = weight;
            p.bias = bias;
            p.hears = true;
            p.believeAll();
            size++;
            return one;
        }

        void drawOne() {
            int kind = draw() % KINDS;
            int dial = draw() % NUMBERS;
            int weight = 1 + draw() % 5;
            int bias = draw() % 21 - 10;
            welcome(kind, dial, weight, bias);
        }

        private int draw() {
            z = z * 1103515245 + 12345;
            return z >>> 8;
        }

        int whoHear() {
            int who = 0;
            for (int i = 0; i < size; i++) {
                if (people[i].hears) {
                    who |= 1 << i;
                }
            }
            return who;
        }

        void onlyHears(int one) {
            for (int i = 0; i < size; i++) {
                people[i].hears = i == one;
            }
        }

        int voice() {
            if (size == 0) {
                return -1;
            }
            if (law == MEAN) {
                return mean();
            }
            return law == MIDDLE ? middle() : greatest();
        }

        private int mean() {
            int sum = 0;
            for (int i = 0; i < size; i++) {
                sum += people[i].dial * people[i].weight;
            }
            int weights = weightUpTo(NUMBERS - 1);
            return weights == 0 ? -1 : sum / weights;
        }

        // The dial at a place of the ordered row is the least dial with which the dials up to it
        // fill more places than lie ahead of that place: no row need be written out.
        private int middle() {
            int place = weightUpTo(NUMBERS - 1) / 2;
            int least = NUMBERS - 1;
            for (int i = 0; i < size; i++) {
                int dial = people[i].dial;
                if (dial < least && weightUpTo(dial) > place) {
                    least = dial;
                }
            }
            return least;
        }

        private int weightUpTo(int dial) {
            int weights = 0;
            for (int i = 0; i < size; i++) {
                if (people[i].dial <= dial) {
                    weights += people[i].weight;
                }
            }
            return weights;
        }

        private int greatest() {
            int most = 0;
            for (int i = 0; i < size; i++) {
                most = Math.max(most, people[i].dial);
            }
            return most;
        }

        /** A try; false if nothing goes. */
        boolean attempt() {
            if (open || size == 0 || bolts == 0) {
                return false;
            }
            bolts--;
            tried++;
            turn();
            return true;
        }

        /** What a try does but for bolts and tries: 1 too much, -1 too little, 0 open. */
        private int turn() {
            int said = voice();
            int answer = Integer.compare(said, number);
            if (answer == 0) {
                open = true;
                return 0;
            }
            spread(said, answer > 0);
            number = drifted(number, 1);
            return answer;
        }

        void spread(int said, boolean tooMuch) {
            int setLaw = laws[LAW_OF_SET];
            for (int i = 0; i < size; i++) {
                Person p = people[i];
                p.hear(said, tooMuch);
                p.dial = p.setting(texts, setLaw);
            }
        }

        int drifted(int from, int times) {
            return Math.floorMod(from + drift * times, NUMBERS);
        }

        boolean wouldAnswer(int from, Sheet answers) {
            number = from;
            for (int i = 0; i < answers.size; i++) {
                int answer = open ? 0 : turn();
                if (answers.places[i] != NONE && answers.places[i] != answer) {
                    return false;
                }
            }
            return true;
        }
    }

    /**
     * What is only thought. Numbers that have had the same answers so far share one world, so all
     * of them are followed together, and part where an answer parts them.
     */
    private static final class Thought {
        private final World[] worlds = new World[THOUGHT_MOST];
        private final int[][] groups = new int[THOUGHT_MOST][NUMBERS];
        private final int[] sizes = new int[THOUGHT_MOST];
        final int[] needed = new int[NUMBERS];

        Thought(Texts texts) {
            for (int i = 0; i < THOUGHT_MOST; i++) {
                worlds[i] = new World(texts);
            }
        }

        World begin(World from) {
            worlds[0].become(from);
            return worlds[0];
        }

        /** Finds what each number from first to last needs; answers that of all, together. */
        int ponder(int first, int last) {
            World w = worlds[0];
            int many = 0;
            for (int k = Math.max(0, first); k <= last && k < NUMBERS; k++) {
                needed[k] = w.open ? 0 : NEVER;
                groups[0][many] = k;
                many++;
            }
            sizes[0] = many;
            if (!w.open && w.size > 0) {
                branch(0);
            }
            int together = 0;
            for (int i = 0; i < many; i++) {
                together += needed[groups[0][i]];
            }
            return together;
        }

        private void branch(int depth) {
            World w = worlds[depth];
            int said = w.voice();
            int next = depth + 1;
            for (int i = 0; i < sizes[depth]; i++) {
                int k = groups[depth][i];
                if (w.drifted(k, depth) == said) {
                    needed[k] = next;
                }
            }
            if (next >= THOUGHT_MOST) {
                return;
            }
            for (int answer = -1; answer <= 1; answer += 2) {
                sizes[next] = gather(depth, said, answer);
                if (sizes[next] > 0) {
                    worlds[next].become(w);
                    worlds[next].spread(said, answer > 0);
                    branch(next);
                }
            }
        }

        /** The numbers of a group that give this answer become the group one deeper. */
        private int gather(int depth, int said, int answer) {
            int many = 0;
            for (int i = 0; i < sizes[depth]; i++) {
                int k = groups[depth][i];
                if (Integer.compare(said, worlds[depth].drifted(k, depth)) == answer) {
                    groups[depth + 1][many] = k;
                    many++;
                }
            }
            return many;
        }
    }

    /** Bytes that wait to be read as a text. */
    private static final class Tape {
        private final int[] bytes = new int[TAPE_MOST];
        int length = 0;

        void take(int four) {
            for (int shift = 24; shift >= 0 && length < TAPE_MOST; shift -= 8) {
                bytes[length] = (four >>> shift) & 255;
                length++;
            }
        }

        int at(int place) {
            return place >= 0 && place < length && place < TAPE_MOST ? bytes[place] : -1;
        }
    }

    /** A law: its code, a number, a name or a sign behind its two sides at each place. */
    private static final class Text {
        /** Codes below NAME are numbers; from SIGN on they are signs, by their bytes. */
        static final int NAME = 10000, SIGN = 20000;

        int key = 0;
        int leaves = 0;
        int length = 0;
        final int[] code = new int[TAPE_MOST];

        void add(int c) {
            if (length < TAPE_MOST) {
                code[length] = c;
                length++;
            }
            if (c < SIGN) {
                leaves++;
            }
        }

        void write(Reader reader) {
            Text read = reader.read;
            key = read.key;
            leaves = read.leaves;
            length = read.length;
            System.arraycopy(read.code, 0, code, 0, length);
        }
    }

    /** The texts, and the stack on which they are worked out. */
    private static final class Texts {
        final Text[] all = new Text[TEXTS_MOST];
        private final int[] stack = new int[TAPE_MOST];

        Texts() {
            for (int i = 0; i < TEXTS_MOST; i++) {
                all[i] = new Text();
            }
        }

        /** What a text gives, if its names, in the order of its key, stand for a, b and c. */
        int give(int text, int a, int b, int c) {
            if (text < 0 || text >= TEXTS_MOST) {
                return 0;
            }
            Text t = all[text];
            int top = 0;
            for (int i = 0; i < t.length; i++) {
                int code = t.code[i];
                if (code < Text.SIGN) {
                    if (top < TAPE_MOST) {
                        stack[top] = leaf(code, a, b, c);
                        top++;
                    }
                } else if (code == Text.SIGN + '!') {
                    if (top > 0) {
                        stack[top - 1] = stack[top - 1] == 0 ? 1 : 0;
                    }
                } else if (top > 1) {
                    top--;
                    stack[top - 1] = join(code - Text.SIGN, stack[top - 1], stack[top]);
                }
            }
            return stack[0];
        }

        private static int leaf(int code, int a, int b, int c) {
            switch (code) {
                case Text.NAME: return a;
                case Text.NAME + 1: return b;
                case Text.NAME + 2: return c;
                default: return code;
            }
        }

        private static int join(int sign, int x, int y) {
            switch (sign) {
                case '|': return x != 0 || y != 0 ? 1 : 0;
                case '&': return x != 0 && y != 0 ? 1 : 0;
                case '<': return x < y ? 1 : 0;
                case '=': return x == y ? 1 : 0;
                case '>': return x > y ? 1 : 0;
                case '+': return x + y;
                case '-': return x - y;
                case '*': return x * y;
                default: return y == 0 ? 0 : x / y;
            }
        }
    }

    /** Reads the tape, word by word, into a text; it stands still at the fault. */
    private static final class Reader {
        private static final int END = 0, LETTERS = 1, DIGITS = 2, OTHER = 3;
        private static final int TESTS = 2, PIECES = 5;
        private static final int OPEN_MOST = 8, DIGITS_MOST = 4;

        private final Tape tape;
        final Text read = new Text();
        /** The word or sign at which the reader stands: its first byte, the place behind it. */
        int start = 0;
        private int end = 0;
        private int sort = END;
        /** Whether it is a word right behind another one. */
        private boolean glued = false;
        private boolean failed = false;
        private int brackets = 0;
        private int nots = 0;

        Reader(Tape tape) {
            this.tape = tape;
        }

        boolean readsWhole() {
            read.leaves = 0;
            read.length = 0;
            start = 0;
            end = 0;
            sort = END;
            failed = false;
            brackets = 0;
            nots = 0;
            advance();
            readKey();
            if (!failed) {
                level(0);
            }
            return !failed && sort == END;
        }

        private void advance() {
            boolean behindWord = sort == LETTERS || sort == DIGITS;
            int before = end;
            start = end;
            while (start < tape.length && tape.at(start) == ' ') {
                start++;
            }
            sort = sortOf(tape.at(start));
            end = start;
            if (sort == OTHER) {
                end++;
            } else if (sort != END) {
                while (end < tape.length && sortOf(tape.at(end)) == sort) {
                    end++;
                }
            }
            glued = behindWord && start == before && (sort == LETTERS || sort == DIGITS);
        }

        private static int sortOf(int b) {
            if (b < 0) {
                return END;
            }
            if (b >= 'a' && b <= 'z') {
                return LETTERS;
            }
            return b >= '0' && b <= '9' ? DIGITS : OTHER;
        }

        private void readKey() {
            if (isWord("set")) {
                read.key = LAW_OF_SET;
            } else if (isWord("fee")) {
                read.key = LAW_OF_FEE;
            } else if (isWord("fine")) {
                read.key = LAW_OF_FINE;
            } else {
                failed = true;
                return;
            }
            advance();
        }

        private boolean isWord(String word) {
            if (end - start != word.length()) {
                return false;
            }
            for (int i = 0; i < word.length(); i++) {
                if (tape.at(start + i) != word.charAt(i)) {
                    return false;
                }
            }
            return true;
        }

        // How deep this goes is bounded by the brackets and nots that may be open at once.
        private void level(int level) {
            if (level >= PIECES) {
                piece();
                return;
            }
            level(level + 1);
            int most = level == TESTS ? 1 : TAPE_MOST;
            for (int i = 0; i < most && !failed && levelOf(sign()) == level; i++) {
                int sign = sign();
                advance();
                level(level + 1);
                read.add(Text.SIGN + sign);
            }
        }

        private static int levelOf(int sign) {
            switch (sign) {
                case '|': return 0;
                case '&': return 1;
                case '<': case '=': case '>': return TESTS;
                case '+': case '-': return 3;
                case '*': case '/': return 4;
                default: return -1;
            }
        }

        private int sign() {
            return sort == OTHER ? tape.at(start) : -1;
        }

        private void piece() {
            if (glued) {
                failed = true;
            } else if (sort == DIGITS) {
                readNumber();
            } else if (sort == LETTERS) {
                readName();
            } else if (sign() == '!') {
                readNot();
            } else if (sign() == '(') {
                readBracket();
            } else {
                failed = true;
            }
        }

        private void readNumber() {
            if (end - start > DIGITS_MOST) {
                failed = true;
                return;
            }
            int number = 0;
            for (int i = start; i < end; i++) {
                number = number * 10 + tape.at(i) - '0';
            }
            read.add(number);
            advance();
        }

        private void readName() {
            int which = end - start == 1 ? lettersOf(read.key).indexOf((char) tape.at(start)) : -1;
            if (which < 0) {
                failed = true;
                return;
            }
            read.add(Text.NAME + which);
            advance();
        }

        private static String lettersOf(int key) {
            switch (key) {
                case LAW_OF_SET: return "lhd";
                case LAW_OF_FEE: return "tb";
                default: return "wd";
            }
        }

        private void readNot() {
            if (nots >= OPEN_MOST) {
                failed = true;
                return;
            }
            nots++;
            advance();
            piece();
            nots--;
            read.add(Text.SIGN + '!');
        }

        private void readBracket() {
            if (brackets >= OPEN_MOST) {
                failed = true;
                return;
            }
            brackets++;
            advance();
            level(0);
            brackets--;
            if (failed || sign() != ')') {
                failed = true;
                return;
            }
            advance();
        }
    }

    /** A row of shorts or of floats; whole numbers all, so ints hold them. NONE is no number. */
    private static final class Sheet {
        int sort = MISSING;
        int size = 0;
        final int[] places = new int[PLACES_MOST];

        void become(int newSort, int newSize) {
            sort = newSort;
            size = newSize;
            for (int i = 0; i < PLACES_MOST; i++) {
                places[i] = 0;
            }
        }

        void become(Sheet other) {
            sort = other.sort;
            size = other.size;
            System.arraycopy(other.places, 0, places, 0, PLACES_MOST);
        }

        boolean hasPlace(int place) {
            return place >= 0 && place < size;
        }

        boolean hasRun(int place, int many) {
            return place >= 0 && many >= 0 && place <= size && many <= size - place;
        }
    }

    /** What a slot holds; of its three things the one that is told by the first field counts. */
    private static final class Slot {
        int thing = HOLDS_NOTHING;
        final Person one = new Person();
        final Sheet sheet = new Sheet();
        int number = 0;
    }
}
