/**
 * Only who didn't: of what was done one may say of somebody only that it was not that one.
 * The words PEOPLE, DEED, LEFT, GO and their like are those of the document's terms.
 */
public final class NeverSaid {
    public static final int BAD = -1000000001, NO = -1000000002, FULL = -1000000003, NONE = -1000000005,
            NOTHING = -1000000011, KIND = -1000000012, INDEX = -1000000013, SIZE = -1000000014;

    private static final int PEOPLE_MOST = 12, DEEDS_MOST = 8, DOERS_MOST = 2, HOURS = 24;
    private static final int BOLD_MOST = 100, WEIGHT_MOST = 99, STOP_MOST = 4, COST_MOST = 99999;
    private static final int ROUNDS_MOST = 40, ROUNDS_TOLD_MOST = 30, WAITING_MOST = 60;
    private static final int TEXTS_MOST = 14, TAPE_MOST = 96, OPEN_MOST = 8, DIGITS_MOST = 4;
    private static final int SHEETS = 4, PLACES_MOST = 24, FLOAT_MOST = 99999, SLOTS = 5;

    private static final int SPEAKER = 0, SURE = 1, LOYAL = 2, ORDERED = 3, BOUGHT = 4, LYING = 5, KINDS = 6;
    private static final int[] KIND_ABOVE = {NONE, SPEAKER, SPEAKER, SURE, LOYAL, SPEAKER};

    private static final int MAY_KEY = 0, COST_KEY = 1, BOLD_KEY = 2, KEYS = 3;
    private static final int NAMES_OF_A_KEY = 3;
    private static final char[] NAMES = {'s', 'p', 'w', 'l', 'w', 'n', 'b', 's', 'n'};

    /* A step of a TEXT's code: a NUMBER is itself, then come the NAMES, then the signs. */
    private static final int NAME_STEP = 10000, SIGN_STEP = 20000;

    private static final int MISSING = -1, SHORTS = 0, FLOATS = 1;
    private static final int HOLDS_NOTHING = 0, HOLDS_ONE = 1, HOLDS_SHEET = 2, HOLDS_NUMBER = 3;

    /* Every number of 1 .. 12 divides it: all parts can be added up over this one line. */
    private static final int COMMON_LINE = 27720;

    private final Hall hall = new Hall();
    private final Hall image = new Hall();
    /* Rounds that are only told are played here, so that neither the hall nor the image moves. */
    private final Hall trial = new Hall();
    private final Reader reader = new Reader();
    private final Tape tape = reader.tape;
    private final Sheet[] sheets = new Sheet[SHEETS];
    private final Slot[] slots = new Slot[SLOTS];
    private final int[] waiting = new int[WAITING_MOST];
    private int waitingCount = 0;
    private boolean imageKept = false;

    public NeverSaid() {
        for (int i = 0; i < SHEETS; i++) {
            sheets[i] = new Sheet();
        }
        for (int i = 0; i < SLOTS; i++) {
            slots[i] = new Slot();
        }
    }

    // ---- people

    public int person(int kind, int bold) {
        if (!isKind(kind) || !within(bold, 0, BOLD_MOST)) {
            return BAD;
        }
        return hall.addPerson(kind, bold, 0);
    }

    public int told(int person, int what) {
        if (!hall.hasPerson(person)) {
            return BAD;
        }
        Person one = hall.people[person];
        switch (what) {
            case 0: return one.kind;
            case 1: return one.bold;
            case 2: return one.hoursAway;
            case 3: return one.friends;
            case 4: return one.followers;
            case 5: return one.worth();
            case 6: return hall.deedsWithout(person);
            default: return BAD;
        }
    }

    public int as(int person, int kind) {
        if (!hall.hasPerson(person) || !isKind(kind)) {
            return BAD;
        }
        Person one = hall.people[person];
        return one.isOf(kind) ? one.bold : KIND;
    }

    public int turns(int person, int kind) {
        if (!hall.hasPerson(person) || !isKind(kind)) {
            return BAD;
        }
        int was = hall.people[person].kind;
        hall.people[person].kind = kind;
        return was;
    }

    public int bolder(int person, int v) {
        if (!hall.hasPerson(person) || !within(v, 0, BOLD_MOST)) {
            return BAD;
        }
        int was = hall.people[person].bold;
        hall.people[person].bold = v;
        return was;
    }

    public int away(int person, int hour, int v) {
        if (!hall.hasPerson(person) || !isHour(hour) || !isYesOrNo(v)) {
            return BAD;
        }
        Person one = hall.people[person];
        int was = bitAt(one.hoursAway, hour);
        one.hoursAway = withBit(one.hoursAway, hour, v);
        return was;
    }

    public int friend(int one, int other, int v) {
        if (!hall.hasTwo(one, other) || !isYesOrNo(v)) {
            return BAD;
        }
        Person a = hall.people[one];
        Person b = hall.people[other];
        int was = bitAt(a.friends, other);
        a.friends = withBit(a.friends, other, v);
        b.friends = withBit(b.friends, one, v);
        return was;
    }

    public int follow(int p, int q, int v) {
        if (!hall.hasTwo(p, q) || !isYesOrNo(v)) {
            return BAD;
        }
        Person ahead = hall.people[p];
        int was = bitAt(ahead.toldFollowers, q);
        ahead.toldFollowers = withBit(ahead.toldFollowers, q, v);
        hall.workOutFollowers();
        return was;
    }

    public int deal(int n) {
        if (!within(n, 1, PEOPLE_MOST)) {
            return BAD;
        }
        int come = Math.min(n, PEOPLE_MOST - hall.peopleCount);
        for (int i = 0; i < come; i++) {
            hall.drawPerson();
        }
        return come;
    }

    public int seed(int v) {
        int was = hall.z;
        hall.z = v;
        return was;
    }

    // ---- deeds

    public int deed(int doers, int hour, int weight) {
        if (!hall.canBeDoers(doers) || !isHour(hour) || !within(weight, 0, WEIGHT_MOST)) {
            return BAD;
        }
        return hall.addDeed(doers, hour, weight);
    }

    public int deedTold(int deed, int what) {
        if (!hall.hasDeed(deed)) {
            return BAD;
        }
        Deed one = hall.deeds[deed];
        switch (what) {
            case 0: return one.doers;
            case 1: return one.hour;
            case 2: return one.weight;
            case 3: return hall.leftOn(one);
            case 4: return one.sayings;
            case 5: return one.lies;
            case 6: return hall.costOf(one);
            case 7: return hall.leftOn(one) == one.doers ? 1 : 0;
            default: return BAD;
        }
    }

    public int again(int deed) {
        if (!hall.hasDeed(deed)) {
            return BAD;
        }
        Deed one = hall.deeds[deed];
        int were = Integer.bitCount(one.gone);
        one.begin();
        return were;
    }

    public int stop(int v) {
        if (!within(v, 0, STOP_MOST)) {
            return BAD;
        }
        int was = hall.leastLeft;
        hall.leastLeft = v;
        return was;
    }

    public int say(int s, int deed, int p) {
        if (!hall.hasPerson(s) || !hall.hasDeed(deed) || !hall.hasPerson(p)) {
            return BAD;
        }
        Deed on = hall.deeds[deed];
        if (!hall.mayBe(s, on, p)) {
            return NO;
        }
        on.takeSaying(hall.goersBy(p));
        return hall.leftCount(on);
    }

    public int choice(int s, int deed) {
        if (!hall.hasPerson(s) || !hall.hasDeed(deed)) {
            return BAD;
        }
        return hall.chosenBy(s, hall.deeds[deed]);
    }

    public int rounds(int deed, int n) {
        if (!hall.hasDeed(deed) || !within(n, 1, ROUNDS_MOST)) {
            return BAD;
        }
        Deed on = hall.deeds[deed];
        int before = on.sayings;
        for (int i = 0; i < n; i++) {
            hall.playRound(on);
        }
        return on.sayings - before;
    }

    // ---- what comes out

    public int fewest(int deed, int what) {
        if (!hall.hasDeed(deed) || !within(what, 0, 1)) {
            return BAD;
        }
        int speakers = hall.fewestFor(hall.deeds[deed]);
        return what == 1 || speakers == NONE ? speakers : Integer.bitCount(speakers);
    }

    public int silent() {
        int left = hall.everyone();
        for (int i = 0; i < hall.deedCount; i++) {
            left &= hall.leftOn(hall.deeds[i]);
        }
        return left;
    }

    public int meant(int deed) {
        if (!hall.hasDeed(deed)) {
            return BAD;
        }
        Deed on = hall.deeds[deed];
        int last = greatestOf(on.gone);
        return last == NONE ? 0 : hall.leftOn(on) & (1 << last) - 1;
    }

    public int proved(int deed) {
        if (!hall.hasDeed(deed)) {
            return BAD;
        }
        Deed on = hall.deeds[deed];
        int left = hall.leftOn(on);
        for (int p = 0; p < hall.peopleCount; p++) {
            if (hasBit(hall.people[p].hoursAway, on.hour)) {
                left &= ~hall.goersBy(p);
            }
        }
        return left;
    }

    public long falls(int person, int part) {
        if (!hall.hasPerson(person) || !within(part, 0, 1)) {
            return BAD;
        }
        int share = hall.shareOf(person);
        int common = commonDivisor(COMMON_LINE, share);
        return part == 0 ? share / common : COMMON_LINE / common;
    }

    public int most() {
        int found = NONE;
        int greatest = -1;
        for (int p = 0; p < hall.peopleCount; p++) {
            int share = hall.shareOf(p);
            if (share > greatest) {
                greatest = share;
                found = p;
            }
        }
        return found;
    }

    // ---- texts

    public int feed(int a, int b, int c) {
        if (tape.length + 12 > TAPE_MOST) {
            return FULL;
        }
        tape.add(a);
        tape.add(b);
        tape.add(c);
        return tape.length;
    }

    public int trim(int n) {
        if (!within(n, 0, tape.length)) {
            return BAD;
        }
        tape.length = n;
        return n;
    }

    public int text() {
        Text read = reader.readTape();
        tape.length = 0;
        return read == null ? -100 - reader.fault : hall.addText(read);
    }

    public int textTold(int text, int what) {
        if (!within(text, 0, hall.textCount - 1) || hall.texts[text] == null) {
            return BAD;
        }
        switch (what) {
            case 0: return hall.texts[text].key;
            case 1: return hall.texts[text].pieces;
            default: return BAD;
        }
    }

    public int why(int key) {
        return within(key, 0, KEYS - 1) ? hall.counting[key] : BAD;
    }

    // ---- sheets, slots

    public int sheet(int sheet, int sort, int n) {
        if (!isSheet(sheet) || !within(sort, MISSING, FLOATS)) {
            return BAD;
        }
        int places = sort == MISSING ? 0 : n;
        if (places > PLACES_MOST) {
            return BAD;
        }
        if (places < 0) {
            return SIZE;
        }
        sheets[sheet].begin(sort, places);
        return places;
    }

    public int mark(int sheet, int place, int v) {
        if (!isSheet(sheet)) {
            return BAD;
        }
        Sheet row = sheets[sheet];
        if (row.sort == MISSING) {
            return NOTHING;
        }
        if (!row.hasPlace(place)) {
            return INDEX;
        }
        if (row.sort == SHORTS && v == NONE) {
            return KIND;
        }
        if (row.sort == FLOATS && v != NONE && !within(v, -FLOAT_MOST, FLOAT_MOST)) {
            return BAD;
        }
        row.places[place] = row.sort == SHORTS ? (short) v : v;
        return 1;
    }

    public int pour(int sheet) {
        if (!isSheet(sheet)) {
            return BAD;
        }
        Sheet row = sheets[sheet];
        if (row.sort == MISSING) {
            return NOTHING;
        }
        int otherwise = 0;
        for (int p = 0; p < hall.peopleCount && row.hasPlace(p); p++) {
            Person one = hall.people[p];
            int bold = row.places[p] == NONE ? one.bold : held(row.places[p], 0, BOLD_MOST);
            if (bold != one.bold) {
                one.bold = bold;
                otherwise++;
            }
        }
        return otherwise;
    }

    public int reads(int sheet) {
        if (!isSheet(sheet)) {
            return BAD;
        }
        Sheet row = sheets[sheet];
        if (row.sort == MISSING) {
            return NOTHING;
        }
        for (int place = 0; place < row.length; place++) {
            boolean isNumber = row.places[place] != NONE;
            if (isNumber && !(hall.hasDeed(place) && row.places[place] == hall.leftCount(hall.deeds[place]))) {
                return place;
            }
        }
        return NONE;
    }

    public int copy(int from, int place, int to, int at, int many) {
        if (!isSheet(from) || !isSheet(to)) {
            return BAD;
        }
        Sheet source = sheets[from];
        Sheet target = sheets[to];
        if (source.sort == MISSING || target.sort == MISSING) {
            return NOTHING;
        }
        if (source.sort != target.sort) {
            return KIND;
        }
        if (!source.hasStretch(place, many) || !target.hasStretch(at, many)) {
            return INDEX;
        }
        System.arraycopy(source.places, place, target.places, at, many);
        return many;
    }

    public int lay(int slot, int thing, int k) {
        if (!isSlot(slot) || !within(thing, HOLDS_NOTHING, HOLDS_NUMBER)) {
            return BAD;
        }
        if (thing == HOLDS_ONE && !hall.hasPerson(k) || thing == HOLDS_SHEET && !isSheet(k)) {
            return BAD;
        }
        if (thing == HOLDS_SHEET && sheets[k].sort == MISSING) {
            return NOTHING;
        }
        Slot in = slots[slot];
        int was = in.thing;
        in.thing = thing;
        if (thing == HOLDS_ONE) {
            in.one.become(hall.people[k]);
        } else if (thing == HOLDS_SHEET) {
            in.row.become(sheets[k]);
        } else {
            in.number = k;
        }
        return was;
    }

    public int ask(int slot, int kind) {
        if (!isSlot(slot) || !isKind(kind)) {
            return BAD;
        }
        Slot in = slots[slot];
        int finding = in.findingFor(HOLDS_ONE);
        if (finding != 0) {
            return finding;
        }
        return in.one.isOf(kind) ? in.one.worth() : KIND;
    }

    public int item(int slot, int place) {
        if (!isSlot(slot)) {
            return BAD;
        }
        Slot in = slots[slot];
        int finding = in.findingFor(HOLDS_SHEET);
        if (finding != 0) {
            return finding;
        }
        if (!in.row.hasPlace(place)) {
            return INDEX;
        }
        return in.row.places[place] == NONE ? KIND : in.row.places[place];
    }

    public int rest(int slot, int n) {
        if (!isSlot(slot)) {
            return BAD;
        }
        Slot in = slots[slot];
        int finding = in.findingFor(HOLDS_NUMBER);
        if (finding != 0) {
            return finding;
        }
        return n == 0 ? NO : in.number % n;
    }

    // ---- rows, images

    public int tell(int v) {
        if (waitingCount >= WAITING_MOST) {
            return FULL;
        }
        waiting[waitingCount] = v;
        waitingCount++;
        return waitingCount;
    }

    public int check(int deed, int n) {
        int numbers = waitingCount;
        waitingCount = 0;
        if (!within(n, 1, ROUNDS_TOLD_MOST)) {
            return BAD;
        }
        if (!imageKept) {
            return NO;
        }
        if (!image.hasDeed(deed)) {
            return BAD;
        }
        trial.become(image);
        Deed on = trial.deeds[deed];
        for (int i = 0; i < n; i++) {
            trial.playRound(on);
            int right = rightOf(trial.leftCount(on), on.lies, 2 * i, numbers);
            if (right < 2) {
                return 1 + 2 * i + right;
            }
        }
        return numbers > 2 * n ? 1 + 2 * n : 0;
    }

    public int keep() {
        image.become(hall);
        imageKept = true;
        return hall.peopleCount;
    }

    public int back() {
        if (!imageKept) {
            return NO;
        }
        hall.become(image);
        return hall.peopleCount;
    }

    public int count(int what) {
        switch (what) {
            case 0: return hall.peopleCount;
            case 1: return hall.deedCount;
            case 2: return hall.leastLeft;
            case 3: return hall.sayingsOfAll();
            case 4: return hall.liesOfAll();
            case 5: return hall.textCount;
            case 6: return waitingCount;
            case 7: return tape.length;
            case 8: return hall.z;
            default: return BAD;
        }
    }

    // ---- what several calls need

    /* How many of the two numbers from this place on, of so many, are the ones told (0 .. 2, from the first on). */
    private int rightOf(int left, int lies, int place, int numbers) {
        if (place < 0 || place >= numbers || waiting[place] != left) {
            return 0;
        }
        return place + 1 < numbers && waiting[place + 1] == lies ? 2 : 1;
    }

    private static boolean within(int v, int least, int greatest) {
        return v >= least && v <= greatest;
    }

    private static int held(int v, int least, int greatest) {
        return Math.max(least, Math.min(greatest, v));
    }

    private static boolean isKind(int kind) {
        return within(kind, 0, KINDS - 1);
    }

    private static boolean isHour(int hour) {
        return within(hour, 0, HOURS - 1);
    }

    private static boolean isYesOrNo(int v) {
        return v == 0 || v == 1;
    }

    private static boolean isSheet(int sheet) {
        return within(sheet, 0, SHEETS - 1);
    }

    private static boolean isSlot(int slot) {
        return within(slot, 0, SLOTS - 1);
    }

    private static int bitAt(int bits, int number) {
        return bits >>> number & 1;
    }

    private static boolean hasBit(int bits, int number) {
        return bitAt(bits, number) == 1;
    }

    private static int withBit(int bits, int number, int v) {
        return v == 1 ? bits | 1 << number : bits & ~(1 << number);
    }

    private static int leastOf(int people) {
        for (int p = 0; p < PEOPLE_MOST; p++) {
            if (hasBit(people, p)) {
                return p;
            }
        }
        return NONE;
    }

    private static int greatestOf(int people) {
        for (int p = PEOPLE_MOST - 1; p >= 0; p--) {
            if (hasBit(people, p)) {
                return p;
            }
        }
        return NONE;
    }

    /* Never below 1, so that one may divide by it. */
    private static int commonDivisor(int a, int b) {
        int above = a;
        int below = b;
        for (int i = 0; i < 64 && below != 0; i++) {
            int rest = above % below;
            above = below;
            below = rest;
        }
        return Math.max(1, above);
    }

    /** One of PEOPLE; sets of others stand in it as bits. */
    private static final class Person {
        int kind;
        int bold;
        int hoursAway;
        int friends;
        int toldFollowers;
        /* Those told and all behind them: worked out anew whenever it is told otherwise. */
        int followers;

        void begin(int ofKind, int withBold, int away) {
            kind = ofKind;
            bold = withBold;
            hoursAway = away;
            friends = 0;
            toldFollowers = 0;
            followers = 0;
        }

        void become(Person other) {
            kind = other.kind;
            bold = other.bold;
            hoursAway = other.hoursAway;
            friends = other.friends;
            toldFollowers = other.toldFollowers;
            followers = other.followers;
        }

        boolean isOf(int wanted) {
            int of = kind;
            for (int up = 0; up < KINDS && isKind(of); up++) {
                if (of == wanted) {
                    return true;
                }
                of = KIND_ABOVE[of];
            }
            return false;
        }

        int worth() {
            switch (kind) {
                case SURE: return bold + 5;
                case ORDERED: return 2 * (bold + 5);
                case LOYAL: return 100 - bold;
                case BOUGHT: return 100 - bold - 7;
                case LYING: return 10 * bold;
                default: return bold;
            }
        }
    }

    /** A DEED. It holds who is LEFT no more, so that who comes later is LEFT without more ado. */
    private static final class Deed {
        int doers;
        int hour;
        int weight;
        int gone;
        int sayings;
        int lies;

        void begin() {
            gone = 0;
            sayings = 0;
            lies = 0;
        }

        void become(Deed other) {
            doers = other.doers;
            hour = other.hour;
            weight = other.weight;
            gone = other.gone;
            sayings = other.sayings;
            lies = other.lies;
        }

        void takeSaying(int goers) {
            gone |= goers;
            sayings++;
            if ((goers & doers) != 0) {
                lies++;
            }
        }
    }

    /** All that an IMAGE keeps: PEOPLE, DEEDS, STOP, TEXTS, z. */
    private static final class Hall {
        final Person[] people = new Person[PEOPLE_MOST];
        final Deed[] deeds = new Deed[DEEDS_MOST];
        final Text[] texts = new Text[TEXTS_MOST];
        final int[] counting = {NONE, NONE, NONE};
        final int[] stack = new int[TAPE_MOST];
        int peopleCount = 0;
        int deedCount = 0;
        int textCount = 0;
        int leastLeft = 2;
        int z = 1;

        Hall() {
            for (int i = 0; i < PEOPLE_MOST; i++) {
                people[i] = new Person();
            }
            for (int i = 0; i < DEEDS_MOST; i++) {
                deeds[i] = new Deed();
            }
        }

        void become(Hall other) {
            for (int i = 0; i < PEOPLE_MOST; i++) {
                people[i].become(other.people[i]);
            }
            for (int i = 0; i < DEEDS_MOST; i++) {
                deeds[i].become(other.deeds[i]);
            }
            for (int i = 0; i < TEXTS_MOST; i++) {
                texts[i] = other.texts[i];
            }
            for (int i = 0; i < KEYS; i++) {
                counting[i] = other.counting[i];
            }
            peopleCount = other.peopleCount;
            deedCount = other.deedCount;
            textCount = other.textCount;
            leastLeft = other.leastLeft;
            z = other.z;
        }

        boolean hasPerson(int p) {
            return within(p, 0, peopleCount - 1);
        }

        boolean hasTwo(int one, int other) {
            return hasPerson(one) && hasPerson(other) && one != other;
        }

        boolean hasDeed(int d) {
            return within(d, 0, deedCount - 1);
        }

        boolean canBeDoers(int doers) {
            return (doers & ~everyone()) == 0 && within(Integer.bitCount(doers), 1, DOERS_MOST);
        }

        int everyone() {
            return (1 << peopleCount) - 1;
        }

        int addPerson(int kind, int bold, int away) {
            if (peopleCount >= PEOPLE_MOST) {
                return FULL;
            }
            people[peopleCount].begin(kind, bold, away);
            peopleCount++;
            return peopleCount - 1;
        }

        int addDeed(int doers, int hour, int weight) {
            if (deedCount >= DEEDS_MOST) {
                return FULL;
            }
            Deed one = deeds[deedCount];
            one.begin();
            one.doers = doers;
            one.hour = hour;
            one.weight = weight;
            deedCount++;
            return deedCount - 1;
        }

        int addText(Text text) {
            if (textCount >= TEXTS_MOST) {
                return FULL;
            }
            texts[textCount] = text;
            counting[text.key] = textCount;
            textCount++;
            return textCount - 1;
        }

        int draw() {
            z = z * 1103515245 + 12345;
            return z >>> 8;
        }

        void drawPerson() {
            int kind = draw() % KINDS;
            int bold = draw() % (BOLD_MOST + 1);
            int away = draw();
            away &= draw();
            addPerson(kind, bold, away & (1 << HOURS) - 1);
        }

        /* One pass is enough when the one in the middle is the outer loop (Warshall). */
        void workOutFollowers() {
            for (int p = 0; p < peopleCount; p++) {
                people[p].followers = people[p].toldFollowers;
            }
            for (int middle = 0; middle < peopleCount; middle++) {
                for (int p = 0; p < peopleCount; p++) {
                    if (hasBit(people[p].followers, middle)) {
                        people[p].followers |= people[middle].followers;
                    }
                }
            }
        }

        int goersBy(int p) {
            return within(p, 0, PEOPLE_MOST - 1) ? people[p].followers | 1 << p : 0;
        }

        int leftOn(Deed on) {
            return everyone() & ~on.gone;
        }

        int leftCount(Deed on) {
            return Integer.bitCount(leftOn(on));
        }

        int deedsWithout(int p) {
            int without = 0;
            for (int i = 0; i < deedCount; i++) {
                without += bitAt(deeds[i].gone, p);
            }
            return without;
        }

        int sayingsOfAll() {
            int sum = 0;
            for (int i = 0; i < deedCount; i++) {
                sum += deeds[i].sayings;
            }
            return sum;
        }

        int liesOfAll() {
            int sum = 0;
            for (int i = 0; i < deedCount; i++) {
                sum += deeds[i].lies;
            }
            return sum;
        }

        /* The TEXT that counts for a KEY, or null. */
        Text lawOf(int key) {
            return within(counting[key], 0, textCount - 1) ? texts[counting[key]] : null;
        }

        int costOf(Deed on) {
            Text law = lawOf(COST_KEY);
            if (law == null) {
                return on.lies * on.weight;
            }
            return held(law.valueOf(stack, on.lies, on.weight, leftCount(on)), 0, COST_MOST);
        }

        int boldOf(int p, Deed on) {
            Text law = lawOf(BOLD_KEY);
            int bold = people[p].bold;
            if (law == null) {
                return bold;
            }
            return held(law.valueOf(stack, bold, p, leftCount(on)), 0, BOLD_MOST);
        }

        /* The TEXT is asked last, being the dearest to ask. */
        boolean mayBe(int s, Deed on, int p) {
            int left = leftOn(on);
            if (!hasBit(left, p) || Integer.bitCount(left & ~goersBy(p)) < leastLeft) {
                return false;
            }
            Text law = lawOf(MAY_KEY);
            return law == null || law.valueOf(stack, s, p, on.weight) != 0;
        }

        int allOfWhomItMayBe(int s, Deed on) {
            int all = 0;
            for (int p = 0; p < peopleCount; p++) {
                if (mayBe(s, on, p)) {
                    all |= 1 << p;
                }
            }
            return all;
        }

        /* Of whom it would be a lie: by whom a DOER GOES. */
        int allOfWhomItIsALie(Deed on) {
            int all = 0;
            for (int p = 0; p < peopleCount; p++) {
                if ((goersBy(p) & on.doers) != 0) {
                    all |= 1 << p;
                }
            }
            return all;
        }

        int chosenBy(int s, Deed on) {
            Person speaker = people[s];
            if (speaker.kind == BOUGHT && on.weight > speaker.bold) {
                return NONE;
            }
            int may = allOfWhomItMayBe(s, on);
            int lies = allOfWhomItIsALie(on);
            switch (speaker.kind) {
                case SURE: return leastOf(may & ~lies);
                case ORDERED: return greatestOf(may & ~lies);
                case LOYAL:
                case BOUGHT: return firstOf(may & speaker.friends, may);
                case LYING: return firstOf(may & lies, may);
                default: return leastOf(may);
            }
        }

        int firstOf(int wanted, int others) {
            return leastOf(wanted != 0 ? wanted : others);
        }

        void playRound(Deed on) {
            for (int p = 0; p < peopleCount; p++) {
                if (draw() % 100 < boldOf(p, on)) {
                    int chosen = chosenBy(p, on);
                    if (chosen != NONE) {
                        on.takeSaying(goersBy(chosen));
                    }
                }
            }
        }

        /*
         * Nobody by whom a DOER GOES can be of the set, nor is such a one reached by others without the
         * DOER: so all who are no DOERS must be of use, or there is no set. Of these each class of people
         * who follow from one another, and from nobody outside the class, needs one of its own: its least.
         */
        int fewestFor(Deed on) {
            int wanted = everyone() & ~on.doers;
            if ((wanted & allOfWhomItIsALie(on)) != 0) {
                return NONE;
            }
            int set = 0;
            for (int p = 0; p < peopleCount; p++) {
                if (hasBit(wanted, p) && isFirstToBeNamed(p, wanted)) {
                    set |= 1 << p;
                }
            }
            return set;
        }

        boolean isFirstToBeNamed(int p, int among) {
            for (int q = 0; q < peopleCount; q++) {
                boolean bringsP = q != p && hasBit(among, q) && hasBit(goersBy(q), p);
                if (bringsP && (q < p || !hasBit(goersBy(p), q))) {
                    return false;
                }
            }
            return true;
        }

        /* FALLS on one, above COMMON_LINE. */
        int shareOf(int p) {
            int share = 0;
            for (int i = 0; i < deedCount; i++) {
                int left = leftOn(deeds[i]);
                if (hasBit(left, p)) {
                    share += COMMON_LINE / Integer.bitCount(left);
                }
            }
            return share;
        }
    }

    /** THE TAPE. */
    private static final class Tape {
        final byte[] bytes = new byte[TAPE_MOST];
        int length = 0;

        void add(int number) {
            for (int shift = 24; shift >= 0 && length < TAPE_MOST; shift -= 8) {
                bytes[length] = (byte) (number >> shift);
                length++;
            }
        }

        /* The byte there, 0 .. 255, or NONE beyond the ends. */
        int at(int place) {
            return place >= 0 && place < length ? bytes[place] & 255 : NONE;
        }
    }

    /** A TEXT as steps with the operands ahead of their sign. */
    private static final class Text {
        final int key;
        final int pieces;
        final int[] code;

        Text(int ofKey, int withPieces, int[] steps) {
            key = ofKey;
            pieces = withPieces;
            code = steps;
        }

        /* a, b, c: what the KEY's NAMES stand for, in the order of NAMES. */
        int valueOf(int[] stack, int a, int b, int c) {
            int top = 0;
            for (int i = 0; i < code.length && top < stack.length; i++) {
                int step = code[i];
                if (step < NAME_STEP) {
                    stack[top] = step;
                    top++;
                } else if (step < SIGN_STEP) {
                    stack[top] = step == NAME_STEP ? a : step == NAME_STEP + 1 ? b : c;
                    top++;
                } else if (step == SIGN_STEP + '!' && top >= 1) {
                    stack[top - 1] = stack[top - 1] == 0 ? 1 : 0;
                } else if (top >= 2) {
                    top--;
                    stack[top - 1] = joined(step - SIGN_STEP, stack[top - 1], stack[top]);
                }
            }
            return stack.length > 0 ? stack[0] : 0;
        }

        static int joined(int sign, int left, int right) {
            switch (sign) {
                case '|': return left != 0 || right != 0 ? 1 : 0;
                case '&': return left != 0 && right != 0 ? 1 : 0;
                case '<': return left < right ? 1 : 0;
                case '=': return left == right ? 1 : 0;
                case '>': return left > right ? 1 : 0;
                case '+': return left + right;
                case '-': return left - right;
                case '*': return left * right;
                default: return right == 0 ? 0 : left / right;
            }
        }
    }

    /** Reads THE TAPE as a TEXT: it is split into words and signs, which are then gone through up to the FAULT. */
    private static final class Reader {
        private static final int BLANK = 0, SIGN = 1, LETTERS = 2, DIGITS = 3, GLUED = 4, END = 5;
        private static final int TEST_LEVEL = 2, PIECE_LEVEL = 5;

        final Tape tape = new Tape();
        /* Of each word or sign, and of the end behind them: what it is, where it starts, how long it is. */
        private final int[] sorts = new int[TAPE_MOST + 1];
        private final int[] starts = new int[TAPE_MOST + 1];
        private final int[] lengths = new int[TAPE_MOST + 1];
        private final int[] code = new int[TAPE_MOST];
        /* How many words and signs there are, and the one at hand. */
        private int words = 0;
        private int hand = 0;
        private int steps = 0;
        private int pieces = 0;
        private int key = NONE;
        /* Where the FAULT is, NONE as long as there is none. */
        int fault = NONE;

        /* The TEXT, or null: then fault tells the place. */
        Text readTape() {
            hand = 0;
            steps = 0;
            pieces = 0;
            fault = NONE;
            splitTape();
            readKey();
            readSide(0, 0, 0);
            if (sorts[hand] != END) {
                fail();
            }
            return fault == NONE ? new Text(key, pieces, usedCode()) : null;
        }

        private int[] usedCode() {
            int[] used = new int[steps];
            System.arraycopy(code, 0, used, 0, steps);
            return used;
        }

        private void splitTape() {
            words = 0;
            int before = BLANK;
            for (int place = 0; place < tape.length; place++) {
                int sort = sortOf(tape.at(place));
                if (sort == SIGN || sort != BLANK && sort != before) {
                    boolean needsBlank = sort != SIGN && (before == LETTERS || before == DIGITS);
                    addWord(needsBlank ? GLUED : sort, place);
                } else if (sort != BLANK && words > 0) {
                    lengths[words - 1]++;
                }
                before = sort;
            }
            sorts[words] = END;
            starts[words] = tape.length;
            lengths[words] = 0;
        }

        private void addWord(int sort, int place) {
            if (words < TAPE_MOST) {
                sorts[words] = sort;
                starts[words] = place;
                lengths[words] = 1;
                words++;
            }
        }

        private static int sortOf(int sign) {
            if (within(sign, 'a', 'z')) {
                return LETTERS;
            }
            if (within(sign, '0', '9')) {
                return DIGITS;
            }
            return sign == ' ' ? BLANK : SIGN;
        }

        /* Only the first FAULT counts: behind it nothing is read any more. */
        private void fail() {
            if (fault == NONE) {
                fault = starts[hand];
            }
        }

        private void goOn() {
            if (hand < words) {
                hand++;
            }
        }

        /* The sign at hand, or NONE where there is a word or the end. */
        private int sign() {
            return sorts[hand] == SIGN ? tape.at(starts[hand]) : NONE;
        }

        private void readKey() {
            key = isWord("may") ? MAY_KEY : isWord("cost") ? COST_KEY : isWord("bold") ? BOLD_KEY : NONE;
            if (key == NONE) {
                fail();
            } else {
                goOn();
            }
        }

        private boolean isWord(String word) {
            if (lengths[hand] != word.length()) {
                return false;
            }
            for (int i = 0; i < word.length(); i++) {
                if (tape.at(starts[hand] + i) != word.charAt(i)) {
                    return false;
                }
            }
            return true;
        }

        /* One level of E, the loosest (OR) being 0; open and nots: how many ( and ! are open around it. */
        private void readSide(int level, int open, int nots) {
            if (fault != NONE) {
                return;
            }
            if (level >= PIECE_LEVEL) {
                readPiece(open, nots);
                return;
            }
            readSide(level + 1, open, nots);
            int signsMost = level == TEST_LEVEL ? 1 : TAPE_MOST;
            for (int i = 0; i < signsMost && fault == NONE && levelOf(sign()) == level; i++) {
                int sign = sign();
                goOn();
                readSide(level + 1, open, nots);
                addStep(SIGN_STEP + sign);
            }
        }

        private static int levelOf(int sign) {
            switch (sign) {
                case '|': return 0;
                case '&': return 1;
                case '<':
                case '=':
                case '>': return TEST_LEVEL;
                case '+':
                case '-': return 3;
                case '*':
                case '/': return 4;
                default: return NONE;
            }
        }

        private void readPiece(int open, int nots) {
            if (sorts[hand] == DIGITS) {
                readNumber();
            } else if (sorts[hand] == LETTERS) {
                readName();
            } else if (sign() == '!' && nots < OPEN_MOST) {
                goOn();
                readPiece(open, nots + 1);
                addStep(SIGN_STEP + '!');
            } else if (sign() == '(' && open < OPEN_MOST) {
                goOn();
                readSide(0, open + 1, nots);
                readClose();
            } else {
                fail();
            }
        }

        private void readClose() {
            if (fault == NONE && sign() == ')') {
                goOn();
            } else {
                fail();
            }
        }

        private void readNumber() {
            if (lengths[hand] > DIGITS_MOST) {
                fail();
                return;
            }
            int number = 0;
            for (int i = 0; i < lengths[hand]; i++) {
                number = 10 * number + tape.at(starts[hand] + i) - '0';
            }
            addPiece(number);
        }

        private void readName() {
            int name = tape.at(starts[hand]);
            for (int i = 0; i < NAMES_OF_A_KEY; i++) {
                int place = key * NAMES_OF_A_KEY + i;
                if (lengths[hand] == 1 && within(place, 0, NAMES.length - 1) && NAMES[place] == name) {
                    addPiece(NAME_STEP + i);
                    return;
                }
            }
            fail();
        }

        private void addPiece(int step) {
            addStep(step);
            pieces++;
            goOn();
        }

        private void addStep(int step) {
            if (steps < TAPE_MOST) {
                code[steps] = step;
                steps++;
            }
        }
    }

    /** A SHEET. NONE stands for NO NUMBER: no place of shorts or floats can have it as its number. */
    private static final class Sheet {
        final int[] places = new int[PLACES_MOST];
        int sort = MISSING;
        int length = 0;

        void begin(int ofSort, int withPlaces) {
            sort = ofSort;
            length = held(withPlaces, 0, PLACES_MOST);
            for (int i = 0; i < PLACES_MOST; i++) {
                places[i] = 0;
            }
        }

        void become(Sheet other) {
            sort = other.sort;
            length = other.length;
            System.arraycopy(other.places, 0, places, 0, PLACES_MOST);
        }

        boolean hasPlace(int place) {
            return within(place, 0, length - 1);
        }

        /* None at all may stand right behind the last place, too. */
        boolean hasStretch(int place, int many) {
            return many >= 0 && within(place, 0, length) && many <= length - place;
        }
    }

    /** A SLOT. What it holds is its own, made once and written over. */
    private static final class Slot {
        final Person one = new Person();
        final Sheet row = new Sheet();
        int number = 0;
        int thing = HOLDS_NOTHING;

        /* The FINDING, if it does not hold the thing that is asked for; else 0. */
        int findingFor(int wanted) {
            if (thing == HOLDS_NOTHING) {
                return NOTHING;
            }
            return thing == wanted ? 0 : KIND;
        }
    }
}
