/** A republic in which every promise ends at the noon of the one that gave it; see README.md. */
public final class NoonVows {
    public static final int BAD = -1000000001, NO = -1000000002, FULL = -1000000003, NONE = -1000000005,
        NOTHING = -1000000011, KIND = -1000000012, INDEX = -1000000013, SIZE = -1000000014;

    private static final int MOST_PEOPLE = 10, MOST_VOWS = 16, MOST_TEXTS = 14;
    private static final int LAST_HOUR = 9999, LAST_FREE_HOUR = 300, DAY = 24;
    private static final int MOST_FAITH = 99, MOST_PURSE = 9999, MOST_KEEPS = 100;
    private static final int SHEETS = 4, MOST_PLACES = 24, MOST_OF_A_PLACE = 99999, SLOTS = 5;
    private static final int MOST_WAITING = 60, MOST_BYTES = 96, BYTES_OF_A_FEED = 12;

    private static final int LATE = 1, SLEEPER = 2, SOLDIER = 3, PRIEST = 4, STRUCK = 5, KINDS = 6;
    private static final int[] KIND_ABOVE = {-1, 0, 0, 1, 2, 0};
    private static final int[] NOON_LATER = {0, 1, 0, 7, 0, 0};
    private static final int[] PAYMENT = {2, 1, 0, 5, 0, 9};

    private static final int MARRIAGE = 0, DEBT = 2, WHATS = 3;
    private static final int KEY_KEEP = 0, KEY_FEE = 1, KEY_FINE = 2, KEYS = 3;
    private static final int MISSING = -1, SHORTS = 0, FLOATS = 1;
    private static final int HOLDS_NOTHING = 0, HOLDS_ONE = 1, HOLDS_SHEET = 2, HOLDS_NUMBER = 3;

    private final Laws laws;
    private final Land now;
    private final Land image;
    private final Land thought;
    private boolean imageIsKept;
    private final byte[] tape;
    private int tapeLength;
    private final Reader reader;
    private final int[] waiting;
    private int waitingCount;
    private final Sheet[] sheets;
    private final Slot[] slots;

    public NoonVows() {
        laws = new Laws();
        now = new Land(laws);
        image = new Land(laws);
        thought = new Land(laws);
        tape = new byte[MOST_BYTES];
        reader = new Reader(tape);
        waiting = new int[MOST_WAITING];
        sheets = new Sheet[SHEETS];
        for (int k = 0; k < SHEETS; k++) {
            sheets[k] = new Sheet();
        }
        slots = new Slot[SLOTS];
        for (int k = 0; k < SLOTS; k++) {
            slots[k] = new Slot();
        }
    }

    // ---- people, vows

    public int person(int kind, int east, int faith) {
        if (!isWithin(kind, 0, KINDS - 1) || !isWithin(east, 0, DAY - 1) || !isWithin(faith, 0, MOST_FAITH)) {
            return BAD;
        }
        if (now.peopleCount >= MOST_PEOPLE) {
            return FULL;
        }
        now.addPerson(kind, east, faith);
        return now.peopleCount - 1;
    }

    public int told(int one, int what) {
        if (!now.hasPerson(one)) {
            return BAD;
        }
        Person it = now.people[one];
        switch (what) {
            case 0: return it.kind;
            case 1: return it.east;
            case 2: return it.faith;
            case 3: return it.purse;
            case 4: return now.vowsGivenBy(one);
            case 5: return now.vowsGivenTo(one);
            case 6: return it.noon();
            case 7: return it.pays();
            case 8: return it.worth();
            default: return BAD;
        }
    }

    public int as(int one, int kind) {
        if (!now.hasPerson(one) || !isWithin(kind, 0, KINDS - 1)) {
            return BAD;
        }
        Person it = now.people[one];
        return it.isOf(kind) ? it.faith : KIND;
    }

    public int turns(int one, int kind) {
        if (!now.hasPerson(one) || !isWithin(kind, 0, KINDS - 1)) {
            return BAD;
        }
        int was = now.people[one].kind;
        now.people[one].kind = kind;
        return was;
    }

    public int set(int one, int what, int v) {
        if (!now.hasPerson(one)) {
            return BAD;
        }
        Person it = now.people[one];
        switch (what) {
            case 1: return isWithin(v, 0, DAY - 1) ? it.changeEast(v) : BAD;
            case 2: return isWithin(v, 0, MOST_FAITH) ? it.changeFaith(v) : BAD;
            case 3: return isWithin(v, -MOST_PURSE, MOST_PURSE) ? it.changePurse(v) : BAD;
            default: return BAD;
        }
    }

    public int vow(int one, int other, int what) {
        if (!now.hasPerson(one) || !now.hasPerson(other) || one == other || !isWithin(what, 0, WHATS - 1)) {
            return BAD;
        }
        Person giver = now.people[one];
        if (giver.kind == STRUCK) {
            return NO;
        }
        if (giver.gaveAt == now.hour) {
            now.strikeOff(one);
            return NONE;
        }
        if (now.vowCount >= MOST_VOWS) {
            return FULL;
        }
        giver.gaveAt = now.hour;
        now.addVow(one, other, what);
        return now.vowCount - 1;
    }

    public int vowOf(int vow, int what) {
        if (!now.hasVow(vow)) {
            return BAD;
        }
        switch (what) {
            case 0: return now.ones[vow];
            case 1: return now.others[vow];
            case 2: return now.whats[vow];
            case 3: return now.keeps(vow);
            default: return BAD;
        }
    }

    public int breaks(int vow) {
        if (!now.hasVow(vow)) {
            return BAD;
        }
        now.lapse(vow);
        return now.vowCount;
    }

    public int eclipse() {
        int were = now.vowCount;
        now.lapsed += were;
        now.vowCount = 0;
        return were;
    }

    public int deal(int n) {
        if (!isWithin(n, 1, MOST_PEOPLE)) {
            return BAD;
        }
        int come = Math.min(n, MOST_PEOPLE - now.peopleCount);
        for (int k = 0; k < come; k++) {
            now.drawPerson();
        }
        return come;
    }

    public int seed(int v) {
        int was = now.z;
        now.z = v;
        return was;
    }

    // ---- hours, chains

    public int hours(int n) {
        if (!isWithin(n, 1, 100)) {
            return BAD;
        }
        int lapsedAhead = now.lapsed;
        now.passHours(Math.min(n, LAST_HOUR - now.hour));
        return now.lapsed - lapsedAhead;
    }

    public int land(int what) {
        switch (what) {
            case 0: return now.vowCount;
            case 1: return now.kept;
            case 2: return now.lapsed;
            case 3: return now.givers();
            case 4: return now.takers();
            case 5: return now.longestChain();
            default: return BAD;
        }
    }

    public int reaches(int one, int other) {
        if (!now.hasPerson(one) || !now.hasPerson(other)) {
            return BAD;
        }
        return now.fewestVowsBetween(one, other);
    }

    // ---- what will be

    public int behind(int n, int what) {
        if (!isWithin(n, 0, 100) || !isWithin(what, 0, 2 + now.peopleCount)) {
            return BAD;
        }
        thought.becomes(now);
        thought.passHours(n);
        switch (what) {
            case 0: return thought.vowCount;
            case 1: return thought.kept;
            case 2: return thought.lapsed;
            default: return thought.people[what - 3].purse;
        }
    }

    public int free() {
        thought.becomes(now);
        for (int k = 0; k <= LAST_FREE_HOUR; k++) {
            if (thought.vowCount == 0) {
                return k;
            }
            thought.passHour();
        }
        return NONE;
    }

    public int sworn(int n, int what) {
        if (!isWithin(n, 1, 40) || !isWithin(what, 0, 1)) {
            return BAD;
        }
        if (now.peopleCount < 2) {
            return NONE;
        }
        int best = -1;
        int mostVows = -1;
        for (int one = 0; one < now.peopleCount; one++) {
            // To whom a marriage is given changes no number of VOWS, so the least other one stands for all.
            int other = one == 0 ? 1 : 0;
            thought.becomes(now);
            thought.addVow(one, other, MARRIAGE);
            thought.passHours(n);
            if (thought.vowCount > mostVows) {
                mostVows = thought.vowCount;
                best = 10 * one + other;
            }
        }
        return what == 0 ? best : mostVows;
    }

    public int trust(int n, int what) {
        if (!isWithin(n, 1, 60) || !isWithin(what, 0, 1)) {
            return BAD;
        }
        int best = NONE;
        int mostVows = -1;
        for (int one = 0; one < now.peopleCount; one++) {
            thought.becomes(now);
            thought.people[one].faith = MOST_FAITH;
            thought.passHours(n);
            if (thought.vowCount > mostVows) {
                mostVows = thought.vowCount;
                best = one;
            }
        }
        return what == 0 || best == NONE ? best : mostVows;
    }

    public int debtor(int n, int what) {
        if (!isWithin(n, 1, 60) || !isWithin(what, 0, 1)) {
            return BAD;
        }
        thought.becomes(now);
        thought.passHours(n);
        int best = NONE;
        int mostLost = 0;
        for (int one = 0; one < now.peopleCount; one++) {
            int lost = now.people[one].purse - thought.people[one].purse;
            if (best == NONE || lost > mostLost) {
                mostLost = lost;
                best = one;
            }
        }
        return what == 0 || best == NONE ? best : mostLost;
    }

    public int clock(int sheet, int one, int what) {
        if (!isWithin(sheet, 0, SHEETS - 1) || !now.hasPerson(one) || !isWithin(what, 0, 1)) {
            return BAD;
        }
        if (sheets[sheet].isMissing()) {
            return NOTHING;
        }
        int best = 0;
        int least = differencesWithEast(sheets[sheet], one, 0);
        for (int east = 1; east < DAY; east++) {
            int differences = differencesWithEast(sheets[sheet], one, east);
            if (differences < least) {
                least = differences;
                best = east;
            }
        }
        return what == 0 ? best : least;
    }

    private int differencesWithEast(Sheet row, int one, int east) {
        thought.becomes(now);
        thought.people[one].east = east;
        int sum = 0;
        for (int k = 0; k < row.size; k++) {
            if (row.isNumber(k)) {
                sum += Math.abs(thought.vowsGivenBy(one) - row.places[k]);
            }
            thought.passHour();
        }
        return sum;
    }

    public int fee() {
        int law = now.lawOf[KEY_FEE];
        return law < 0 ? now.lapsed : laws.gives(law, now.kept, now.lapsed, 0);
    }

    public int fine(int one) {
        if (!now.hasPerson(one)) {
            return BAD;
        }
        Person it = now.people[one];
        int law = now.lawOf[KEY_FINE];
        return law < 0 ? it.purse : laws.gives(law, it.purse, it.east, 0);
    }

    // ---- texts

    public int feed(int a, int b, int c) {
        if (tapeLength > MOST_BYTES - BYTES_OF_A_FEED) {
            return FULL;
        }
        putBytes(a);
        putBytes(b);
        putBytes(c);
        return tapeLength;
    }

    private void putBytes(int number) {
        for (int shift = 24; shift >= 0; shift -= 8) {
            tape[tapeLength] = (byte) (number >> shift);
            tapeLength++;
        }
    }

    public int trim(int n) {
        if (!isWithin(n, 0, tapeLength)) {
            return BAD;
        }
        tapeLength = n;
        return n;
    }

    public int text() {
        int number = now.textCount;
        Law law = laws.all[number];
        boolean isText = reader.readsText(tapeLength, law);
        tapeLength = 0;
        if (!isText) {
            return -100 - reader.start;
        }
        if (number >= MOST_TEXTS) {
            return FULL;
        }
        now.textCount++;
        now.lawOf[law.key] = number;
        return number;
    }

    public int textTold(int text, int what) {
        if (!isWithin(text, 0, now.textCount - 1)) {
            return BAD;
        }
        switch (what) {
            case 0: return laws.all[text].key;
            case 1: return laws.all[text].leaves;
            default: return BAD;
        }
    }

    public int why(int key) {
        if (!isWithin(key, 0, KEYS - 1)) {
            return BAD;
        }
        return now.lawOf[key] < 0 ? NONE : now.lawOf[key];
    }

    // ---- sheets, slots

    public int sheet(int sheet, int sort, int n) {
        if (!isWithin(sheet, 0, SHEETS - 1) || !isWithin(sort, MISSING, FLOATS)) {
            return BAD;
        }
        if (sort == MISSING) {
            sheets[sheet].startAnew(MISSING, 0);
            return 0;
        }
        if (n > MOST_PLACES) {
            return BAD;
        }
        if (n < 0) {
            return SIZE;
        }
        sheets[sheet].startAnew(sort, n);
        return n;
    }

    public int mark(int sheet, int place, int v) {
        if (!isWithin(sheet, 0, SHEETS - 1)) {
            return BAD;
        }
        Sheet row = sheets[sheet];
        if (row.isMissing()) {
            return NOTHING;
        }
        if (!row.hasPlace(place)) {
            return INDEX;
        }
        if (row.sort == SHORTS) {
            if (v == NONE) {
                return KIND;
            }
            row.places[place] = (short) v;
            return 1;
        }
        if (v != NONE && !isWithin(v, -MOST_OF_A_PLACE, MOST_OF_A_PLACE)) {
            return BAD;
        }
        row.places[place] = v;
        return 1;
    }

    public int pour(int sheet) {
        if (!isWithin(sheet, 0, SHEETS - 1)) {
            return BAD;
        }
        Sheet row = sheets[sheet];
        if (row.isMissing()) {
            return NOTHING;
        }
        int otherwise = 0;
        int reached = Math.min(row.size, now.peopleCount);
        for (int k = 0; k < reached; k++) {
            if (row.isNumber(k)) {
                int faith = heldWithin(row.places[k], 0, MOST_FAITH);
                if (now.people[k].changeFaith(faith) != faith) {
                    otherwise++;
                }
            }
        }
        return otherwise;
    }

    public int reads(int sheet) {
        if (!isWithin(sheet, 0, SHEETS - 1)) {
            return BAD;
        }
        Sheet row = sheets[sheet];
        if (row.isMissing()) {
            return NOTHING;
        }
        for (int k = 0; k < row.size; k++) {
            if (row.isNumber(k) && (!now.hasPerson(k) || row.places[k] != now.people[k].noon())) {
                return k;
            }
        }
        return NONE;
    }

    public int copy(int from, int place, int to, int at, int many) {
        if (!isWithin(from, 0, SHEETS - 1) || !isWithin(to, 0, SHEETS - 1)) {
            return BAD;
        }
        Sheet source = sheets[from];
        Sheet target = sheets[to];
        if (source.isMissing() || target.isMissing()) {
            return NOTHING;
        }
        if (source.sort != target.sort) {
            return KIND;
        }
        if (!source.hasRun(place, many) || !target.hasRun(at, many)) {
            return INDEX;
        }
        System.arraycopy(source.places, place, target.places, at, many);
        return many;
    }

    public int lay(int slot, int thing, int k) {
        if (!isWithin(slot, 0, SLOTS - 1) || !isWithin(thing, HOLDS_NOTHING, HOLDS_NUMBER)) {
            return BAD;
        }
        if (thing == HOLDS_ONE && !now.hasPerson(k)) {
            return BAD;
        }
        if (thing == HOLDS_SHEET && !isWithin(k, 0, SHEETS - 1)) {
            return BAD;
        }
        if (thing == HOLDS_SHEET && sheets[k].isMissing()) {
            return NOTHING;
        }
        Slot it = slots[slot];
        int held = it.holds;
        it.holds = thing;
        switch (thing) {
            case HOLDS_ONE: it.one.becomes(now.people[k]); break;
            case HOLDS_SHEET: it.row.becomes(sheets[k]); break;
            case HOLDS_NUMBER: it.number = k; break;
            default: break;
        }
        return held;
    }

    public int ask(int slot, int kind) {
        if (!isWithin(slot, 0, SLOTS - 1) || !isWithin(kind, 0, KINDS - 1)) {
            return BAD;
        }
        Slot it = slots[slot];
        if (it.holds == HOLDS_NOTHING) {
            return NOTHING;
        }
        if (it.holds != HOLDS_ONE || !it.one.isOf(kind)) {
            return KIND;
        }
        return it.one.worth();
    }

    public int item(int slot, int place) {
        if (!isWithin(slot, 0, SLOTS - 1)) {
            return BAD;
        }
        Slot it = slots[slot];
        if (it.holds == HOLDS_NOTHING) {
            return NOTHING;
        }
        if (it.holds != HOLDS_SHEET) {
            return KIND;
        }
        if (!it.row.hasPlace(place)) {
            return INDEX;
        }
        return it.row.isNumber(place) ? it.row.places[place] : KIND;
    }

    public int rest(int slot, int n) {
        if (!isWithin(slot, 0, SLOTS - 1)) {
            return BAD;
        }
        Slot it = slots[slot];
        if (it.holds == HOLDS_NOTHING) {
            return NOTHING;
        }
        if (it.holds != HOLDS_NUMBER) {
            return KIND;
        }
        return n == 0 ? NO : it.number % n;
    }

    // ---- rows, images

    public int tell(int v) {
        if (waitingCount >= MOST_WAITING) {
            return FULL;
        }
        waiting[waitingCount] = v;
        waitingCount++;
        return waitingCount;
    }

    public int check(int n) {
        int many = waitingCount;
        waitingCount = 0;
        if (!isWithin(n, 1, MOST_WAITING / 2)) {
            return BAD;
        }
        if (!imageIsKept) {
            return NO;
        }
        thought.becomes(image);
        int due = 2 * Math.min(n, LAST_HOUR - image.hour);
        for (int k = 0; k < due; k++) {
            boolean firstOfHour = k % 2 == 0;
            if (firstOfHour) {
                thought.passHour();
            }
            if (k >= many || waiting[k] != (firstOfHour ? thought.vowCount : thought.lapsed)) {
                return 1 + k;
            }
        }
        return many == due ? 0 : 1 + due;
    }

    public int keep() {
        image.becomes(now);
        imageIsKept = true;
        return image.peopleCount;
    }

    public int back() {
        if (!imageIsKept) {
            return NO;
        }
        now.becomes(image);
        return now.peopleCount;
    }

    public int count(int what) {
        switch (what) {
            case 0: return now.peopleCount;
            case 1: return now.vowCount;
            case 2: return now.hour;
            case 3: return now.struckCount();
            case 4: return now.textCount;
            case 5: return waitingCount;
            case 6: return tapeLength;
            case 7: return now.z;
            default: return BAD;
        }
    }

    private static boolean isWithin(int v, int least, int most) {
        return v >= least && v <= most;
    }

    private static int heldWithin(int v, int least, int most) {
        return Math.max(least, Math.min(most, v));
    }

    /** One of the PEOPLE. */
    private static final class Person {
        private int kind;
        private int east;
        private int faith;
        private int purse;
        private int gaveAt;

        private void comes(int itsKind, int itsEast, int itsFaith) {
            kind = itsKind;
            east = itsEast;
            faith = itsFaith;
            purse = 0;
            gaveAt = -1;
        }

        private void becomes(Person like) {
            kind = like.kind;
            east = like.east;
            faith = like.faith;
            purse = like.purse;
            gaveAt = like.gaveAt;
        }

        private int changeEast(int v) {
            int was = east;
            east = v;
            return was;
        }

        private int changeFaith(int v) {
            int was = faith;
            faith = v;
            return was;
        }

        private int changePurse(int v) {
            int was = purse;
            purse = v;
            return was;
        }

        private void receive(int amount) {
            purse = heldWithin(purse + amount, -MOST_PURSE, MOST_PURSE);
        }

        private boolean isOf(int wanted) {
            int itsKind = kind;
            for (int step = 0; step < KINDS && itsKind >= 0; step++) {
                if (itsKind == wanted) {
                    return true;
                }
                itsKind = KIND_ABOVE[itsKind];
            }
            return false;
        }

        private int noon() {
            return (12 + east + NOON_LATER[kind]) % DAY;
        }

        private int pays() {
            return PAYMENT[kind];
        }

        private int worth() {
            switch (kind) {
                case LATE: return faith + 6;
                case SOLDIER: return 2 * (faith + 6);
                case SLEEPER: return 99 - faith;
                case PRIEST: return 99 - faith - 5;
                case STRUCK: return 1;
                default: return faith;
            }
        }

        /** KEEPS, from what it would be for a VOWER. */
        private int keepsFrom(int asVower) {
            int asLate = Math.min(MOST_KEEPS, asVower + 10);
            int asSleeper = Math.max(0, asVower - 20);
            switch (kind) {
                case LATE: return asLate;
                case SOLDIER: return asLate / 2;
                case SLEEPER: return asSleeper;
                case PRIEST: return Math.min(MOST_KEEPS, asSleeper + 30);
                case STRUCK: return 0;
                default: return asVower;
            }
        }
    }

    /** All that AN IMAGE keeps; the TEXTS themselves lie in laws, which are only ever added to. */
    private static final class Land {
        private final Laws laws;
        private final Person[] people = new Person[MOST_PEOPLE];
        private int peopleCount;
        // One place more than there are VOWS: SWORN thinks of one more though there are 16.
        private final int[] ones = new int[MOST_VOWS + 1];
        private final int[] others = new int[MOST_VOWS + 1];
        private final int[] whats = new int[MOST_VOWS + 1];
        private int vowCount;
        private int kept;
        private int lapsed;
        private int hour;
        private int z = 1;
        private int textCount;
        private final int[] lawOf = {-1, -1, -1};

        private Land(Laws laws) {
            this.laws = laws;
            for (int k = 0; k < MOST_PEOPLE; k++) {
                people[k] = new Person();
            }
        }

        private void becomes(Land like) {
            peopleCount = like.peopleCount;
            for (int k = 0; k < peopleCount; k++) {
                people[k].becomes(like.people[k]);
            }
            vowCount = like.vowCount;
            System.arraycopy(like.ones, 0, ones, 0, vowCount);
            System.arraycopy(like.others, 0, others, 0, vowCount);
            System.arraycopy(like.whats, 0, whats, 0, vowCount);
            kept = like.kept;
            lapsed = like.lapsed;
            hour = like.hour;
            z = like.z;
            textCount = like.textCount;
            System.arraycopy(like.lawOf, 0, lawOf, 0, KEYS);
        }

        private boolean hasPerson(int one) {
            return isWithin(one, 0, peopleCount - 1);
        }

        private boolean hasVow(int vow) {
            return isWithin(vow, 0, vowCount - 1);
        }

        private void addPerson(int kind, int east, int faith) {
            people[peopleCount].comes(kind, east, faith);
            peopleCount++;
        }

        private void drawPerson() {
            int kind = draw() % KINDS;
            int east = draw() % DAY;
            int faith = draw() % (MOST_FAITH + 1);
            addPerson(kind, east, faith);
        }

        private int draw() {
            z = z * 1103515245 + 12345;
            return z >>> 8;
        }

        private int struckCount() {
            int many = 0;
            for (int k = 0; k < peopleCount; k++) {
                if (people[k].kind == STRUCK) {
                    many++;
                }
            }
            return many;
        }

        private void addVow(int one, int other, int what) {
            ones[vowCount] = one;
            others[vowCount] = other;
            whats[vowCount] = what;
            vowCount++;
        }

        private void lapse(int vow) {
            int later = vowCount - vow - 1;
            System.arraycopy(ones, vow + 1, ones, vow, later);
            System.arraycopy(others, vow + 1, others, vow, later);
            System.arraycopy(whats, vow + 1, whats, vow, later);
            vowCount--;
            lapsed++;
        }

        private void strikeOff(int one) {
            people[one].kind = STRUCK;
            for (int v = vowCount - 1; v >= 0; v--) {
                if (ones[v] == one) {
                    lapse(v);
                }
            }
        }

        private int vowsGivenBy(int one) {
            return timesIn(ones, one);
        }

        private int vowsGivenTo(int one) {
            return timesIn(others, one);
        }

        private int timesIn(int[] row, int one) {
            int many = 0;
            for (int v = 0; v < vowCount; v++) {
                if (row[v] == one) {
                    many++;
                }
            }
            return many;
        }

        private int keeps(int vow) {
            Person giver = people[ones[vow]];
            int given = vowsGivenBy(ones[vow]);
            int law = lawOf[KEY_KEEP];
            int asVower = law < 0
                ? Math.max(0, giver.faith - 5 * given)
                : heldWithin(laws.gives(law, giver.faith, given, whats[vow]), 0, MOST_KEEPS);
            return giver.keepsFrom(asVower);
        }

        private void passHours(int n) {
            for (int k = 0; k < n; k++) {
                passHour();
            }
        }

        private void passHour() {
            hour++;
            callVowsAtNoon();
            payDebts();
        }

        private void callVowsAtNoon() {
            int all = vowCount;
            int vow = 0;
            for (int called = 0; called < all; called++) {
                if (people[ones[vow]].noon() != hour % DAY) {
                    vow++;
                } else if (draw() % 100 < keeps(vow)) {
                    kept++;
                    vow++;
                } else {
                    // The next VOW has this number then.
                    lapse(vow);
                }
            }
        }

        private void payDebts() {
            for (int v = 0; v < vowCount; v++) {
                if (whats[v] == DEBT) {
                    int amount = people[ones[v]].pays();
                    people[ones[v]].receive(-amount);
                    people[others[v]].receive(amount);
                }
            }
        }

        private int givers() {
            return bitsOf(ones);
        }

        private int takers() {
            return bitsOf(others);
        }

        private int bitsOf(int[] row) {
            int bits = 0;
            for (int v = 0; v < vowCount; v++) {
                bits |= 1 << row[v];
            }
            return bits;
        }

        private int longestChain() {
            int longest = 0;
            for (int one = 0; one < peopleCount; one++) {
                longest = Math.max(longest, longestChainFrom(this, one, 1 << one));
            }
            return longest;
        }

        /** The bits seen grow by one of the PEOPLE with each level, so it goes ten levels deep at most. */
        private static int longestChainFrom(Land land, int one, int seen) {
            int longest = 0;
            for (int v = 0; v < land.vowCount; v++) {
                int next = land.others[v];
                if (land.ones[v] == one && (seen & 1 << next) == 0) {
                    longest = Math.max(longest, 1 + longestChainFrom(land, next, seen | 1 << next));
                }
            }
            return longest;
        }

        private int fewestVowsBetween(int one, int other) {
            int reached = 1 << one;
            for (int vows = 0; vows < MOST_PEOPLE; vows++) {
                if ((reached & 1 << other) != 0) {
                    return vows;
                }
                int further = 0;
                for (int v = 0; v < vowCount; v++) {
                    if ((reached & 1 << ones[v]) != 0) {
                        further |= 1 << others[v];
                    }
                }
                reached |= further;
            }
            return NONE;
        }
    }

    /** A TEXT, worked out from a row of numbers (0 or more), names (-1 .. -3) and signs (less than that). */
    private static final class Law {
        private int key;
        private int leaves;
        private final short[] code = new short[MOST_BYTES];
        private int length;

        private void startAnew() {
            leaves = 0;
            length = 0;
        }

        private void addNumber(int number) {
            put(number);
            leaves++;
        }

        private void addName(int place) {
            put(-1 - place);
            leaves++;
        }

        private void addSign(char sign) {
            put(-sign);
        }

        private void put(int step) {
            if (length < MOST_BYTES) {
                code[length] = (short) step;
                length++;
            }
        }
    }

    /** The TEXTS, with one place more: the TAPE is read there when there are 14 already. */
    private static final class Laws {
        private final Law[] all = new Law[MOST_TEXTS + 1];
        private final int[] stack = new int[MOST_BYTES];

        private Laws() {
            for (int k = 0; k <= MOST_TEXTS; k++) {
                all[k] = new Law();
            }
        }

        private int gives(int law, int first, int second, int third) {
            Law it = all[law];
            int top = 0;
            for (int k = 0; k < it.length; k++) {
                int step = it.code[k];
                if (step >= -3) {
                    stack[top] = step >= 0 ? step : step == -1 ? first : step == -2 ? second : third;
                    top++;
                } else if (step == -'!' && top > 0) {
                    stack[top - 1] = stack[top - 1] == 0 ? 1 : 0;
                } else if (top > 1) {
                    top--;
                    stack[top - 1] = join((char) -step, stack[top - 1], stack[top]);
                }
            }
            return stack[0];
        }

        private static int join(char sign, int left, int right) {
            switch (sign) {
                case '|': return left != 0 || right != 0 ? 1 : 0;
                case '&': return left != 0 && right != 0 ? 1 : 0;
                case '<': return left < right ? 1 : 0;
                case '=': return left == right ? 1 : 0;
                case '>': return left > right ? 1 : 0;
                case '+': return left + right;
                case '-': return left - right;
                case '*': return left * right;
                default: return right == 0 ? 0 : left / right;
            }
        }
    }

    /** Reads THE TAPE as a TEXT; where that fails, start is the place of the FAULT. */
    private static final class Reader {
        private static final int END = 0, WORD = 1, NUMBER = 2, SIGN = 3, WRONG = 4;
        private static final int LEVEL_OF_TESTS = 2, LEVEL_OF_PIECES = 5;
        private static final int MOST_OPEN = 8, MOST_DIGITS = 4;

        private final byte[] tape;
        private int length;
        private Law law;
        /** What stands from start up to end: the word or sign that is looked at. */
        private int sort;
        private int start;
        private int end;

        private Reader(byte[] tape) {
            this.tape = tape;
        }

        private boolean readsText(int tapeLength, Law into) {
            length = tapeLength;
            law = into;
            law.startAnew();
            sort = END;
            end = 0;
            goOn();
            law.key = keyHere();
            if (law.key < 0) {
                return false;
            }
            goOn();
            return readsLevel(0, 0, 0) && sort == END;
        }

        private int keyHere() {
            if (isWordHere("keep")) {
                return KEY_KEEP;
            }
            if (isWordHere("fee")) {
                return KEY_FEE;
            }
            return isWordHere("fine") ? KEY_FINE : -1;
        }

        private boolean isWordHere(String word) {
            if (sort != WORD || end - start != word.length()) {
                return false;
            }
            for (int k = 0; k < word.length(); k++) {
                if (tape[start + k] != word.charAt(k)) {
                    return false;
                }
            }
            return true;
        }

        private static String namesOf(int key) {
            switch (key) {
                case KEY_KEEP: return "fnw";
                case KEY_FEE: return "kl";
                default: return "pe";
            }
        }

        private static String signsOf(int level) {
            switch (level) {
                case 0: return "|";
                case 1: return "&";
                case LEVEL_OF_TESTS: return "<=>";
                case 3: return "+-";
                default: return "*/";
            }
        }

        /** Levels are those of E, the loosest first; each goes on with the next, and pieces stay under 8 ( and 8 !. */
        private boolean readsLevel(int level, int brackets, int nots) {
            if (level >= LEVEL_OF_PIECES) {
                return readsPiece(brackets, nots);
            }
            if (!readsLevel(level + 1, brackets, nots)) {
                return false;
            }
            int most = level == LEVEL_OF_TESTS ? 1 : MOST_BYTES;
            for (int k = 0; k < most && sort == SIGN && signsOf(level).indexOf(signHere()) >= 0; k++) {
                char sign = signHere();
                goOn();
                if (!readsLevel(level + 1, brackets, nots)) {
                    return false;
                }
                law.addSign(sign);
            }
            return true;
        }

        private boolean readsPiece(int brackets, int nots) {
            if (sort == NUMBER) {
                law.addNumber(numberHere());
                goOn();
                return true;
            }
            if (sort == WORD) {
                return readsName();
            }
            if (sort != SIGN) {
                return false;
            }
            if (signHere() == '!' && nots < MOST_OPEN) {
                goOn();
                boolean isPiece = readsPiece(brackets, nots + 1);
                law.addSign('!');
                return isPiece;
            }
            if (signHere() == '(' && brackets < MOST_OPEN) {
                goOn();
                return readsLevel(0, brackets + 1, nots) && closesBracket();
            }
            return false;
        }

        private boolean readsName() {
            int place = end - start == 1 ? namesOf(law.key).indexOf(signHere()) : -1;
            if (place < 0) {
                return false;
            }
            law.addName(place);
            goOn();
            return true;
        }

        private boolean closesBracket() {
            if (sort != SIGN || signHere() != ')') {
                return false;
            }
            goOn();
            return true;
        }

        private int numberHere() {
            int number = 0;
            for (int k = start; k < end; k++) {
                number = 10 * number + tape[k] - '0';
            }
            return number;
        }

        private char signHere() {
            return start < length ? (char) (tape[start] & 255) : (char) 0;
        }

        /** The next word or sign; one that no TEXT can have there, whatever stands ahead, is WRONG. */
        private void goOn() {
            int behindLast = end;
            boolean lastWasWord = sort == WORD || sort == NUMBER;
            start = end;
            while (start < length && tape[start] == ' ') {
                start++;
            }
            end = start;
            if (start >= length) {
                sort = END;
                return;
            }
            if (isLetter(start)) {
                sort = WORD;
                while (end < length && isLetter(end)) {
                    end++;
                }
            } else if (isDigit(start)) {
                sort = NUMBER;
                while (end < length && isDigit(end)) {
                    end++;
                }
            } else {
                sort = SIGN;
                end++;
            }
            boolean needsBlank = lastWasWord && sort != SIGN && start == behindLast;
            if (needsBlank || sort == NUMBER && end - start > MOST_DIGITS) {
                sort = WRONG;
            }
        }

        private boolean isLetter(int place) {
            return tape[place] >= 'a' && tape[place] <= 'z';
        }

        private boolean isDigit(int place) {
            return tape[place] >= '0' && tape[place] <= '9';
        }
    }

    /** A SHEET; a place that holds NONE is NO NUMBER. */
    private static final class Sheet {
        private int sort = MISSING;
        private int size;
        private final int[] places = new int[MOST_PLACES];

        private void startAnew(int itsSort, int n) {
            sort = itsSort;
            size = n;
            for (int k = 0; k < n; k++) {
                places[k] = 0;
            }
        }

        private void becomes(Sheet like) {
            sort = like.sort;
            size = like.size;
            System.arraycopy(like.places, 0, places, 0, size);
        }

        private boolean isMissing() {
            return sort == MISSING;
        }

        private boolean hasPlace(int place) {
            return isWithin(place, 0, size - 1);
        }

        private boolean hasRun(int place, int many) {
            return isWithin(place, 0, size) && isWithin(many, 0, size - place);
        }

        private boolean isNumber(int place) {
            return places[place] != NONE;
        }
    }

    /** A SLOT, with room for each thing that it may hold. */
    private static final class Slot {
        private int holds = HOLDS_NOTHING;
        private final Person one = new Person();
        private final Sheet row = new Sheet();
        private int number;
    }
}
