/**
 * A tower with a winding stair that leans to whoever climbs it. What each call answers is
 * promised by the document (../shared/DOC.md); words in capitals there are the words used here.
 */
public final class LeanTower {
    public static final int NONE = -1000000, BAD = -1000001, STATE = -1000002, FULL = -1000003;

    private static final int FINDING_BASE = -1000010;
    private static final int FAULT_BASE = -1000100;

    private static final int NULL_FOUND = 1;
    private static final int PLACE_FOUND = 2;
    private static final int KIND_FOUND = 3;
    private static final int SIZE_FOUND = 4;
    private static final int STORE_FOUND = 5;

    private static final int ROWS = 8;
    private static final int MOST_ITEMS = 40;
    private static final int MOST_PEOPLE = 7;
    private static final int MOST_STONES = 4;
    private static final int MOST_ACTS = 24;
    private static final int MOST_BELLS = 5;
    private static final int MOST_NOD = 20;
    private static final int IMAGES = 2;
    private static final int SIDES = 4;

    private static final int MOST_HALVES = 64;
    private static final int FORETOLD_HALVES = 64;
    private static final int FORETOLD_YEARS = 99;
    private static final int MOST_DELAY = 9;
    private static final int LAST_MINUTE = 9999;
    private static final int MOST_CREPT = 9999;
    private static final int MOST_MARK = 999;

    private static final int EAST = 0;
    private static final int NORTH = 1;

    private static final int UP = 1;
    private static final int STANDS = 0;
    private static final int DOWN = -1;
    private static final int OUTSIDE = -1;

    /** The set of all PEOPLE, however many there are. */
    private static final int EVERYONE = (1 << MOST_PEOPLE) - 1;

    private static final int PERSON = 0;
    private static final int PILGRIM = 1;
    private static final int WIDOW = 2;
    private static final int BOY = 3;
    private static final int MONK = 4;
    private static final int BISHOP = 5;

    private final Row[] rows = new Row[ROWS];
    private final Reader reader = new Reader();
    private final Tower now = new Tower();
    /** Where texts are read and what is FORETOLD is tried, so that no call makes a TOWER. */
    private final Tower trial = new Tower();
    /** The TOWER ahead of each ACT that can be undone, in a ring. */
    private final Tower[] before = new Tower[MOST_ACTS];
    private int oldestAct;
    private int actCount;
    private final Tower[] images = new Tower[IMAGES];
    private final Trace bodies = new Trace();
    private final Bells belfry = new Bells();
    /** Of each set of PEOPLE on STEPS: whether all of them can be brought out by the law. */
    private final boolean[] rescuable = new boolean[1 << MOST_PEOPLE];
    /** How far it leans to each SIDE at most while 64 HALVES pass, without STONES. */
    private final int[] reach = new int[SIDES];
    private int latestFinding;

    public LeanTower() {
        for (int i = 0; i < ROWS; i++) {
            rows[i] = new Row();
        }
        for (int i = 0; i < MOST_ACTS; i++) {
            before[i] = new Tower();
        }
        for (int i = 0; i < IMAGES; i++) {
            images[i] = new Tower();
        }
    }

    // ---- rows

    public int row(int row, int lane, int n) {
        Row one = rowAt(row);
        if (one == null || lane < Row.BYTES || lane > Row.INTS || n > MOST_ITEMS) {
            return BAD;
        }
        if (n < 0) {
            return found(SIZE_FOUND);
        }
        one.begin(lane, n);
        return clean(n);
    }

    public int set(int row, int i, int v) {
        Row one = rowAt(row);
        if (one == null) {
            return BAD;
        }
        if (one.isMissing()) {
            return found(NULL_FOUND);
        }
        if (i < 0 || i >= one.length) {
            return found(PLACE_FOUND);
        }
        one.items[i] = one.narrowed(v);
        return clean(one.items[i]);
    }

    public int copy(int a, int i, int b, int j, int n) {
        Row from = rowAt(a);
        Row to = rowAt(b);
        if (from == null || to == null) {
            return BAD;
        }
        if (from.isMissing() || to.isMissing()) {
            return found(NULL_FOUND);
        }
        if (from.lane != to.lane) {
            return found(STORE_FOUND);
        }
        if (!from.reaches(i, n) || !to.reaches(j, n)) {
            return found(PLACE_FOUND);
        }
        System.arraycopy(from.items, i, to.items, j, n);
        return clean(n);
    }

    public int drop(int row) {
        Row one = rowAt(row);
        if (one == null) {
            return BAD;
        }
        if (one.isMissing()) {
            return found(NULL_FOUND);
        }
        int had = one.length;
        one.end();
        return clean(had);
    }

    // ---- towers, acts

    public int feed(long w, int n) {
        if (n < 1 || n > 8) {
            return BAD;
        }
        if (reader.bytes + n > Reader.MOST_BYTES) {
            return FULL;
        }
        for (int i = n - 1; i >= 0; i--) {
            reader.append((byte) (w >> (8 * i)));
        }
        return reader.bytes;
    }

    public int tower() {
        if (!reader.readInto(trial)) {
            return FAULT_BASE - reader.faultPlace;
        }
        now.takeFrom(trial);
        actCount = 0;
        return now.people;
    }

    public int fault() {
        return reader.latestFault;
    }

    public int go(int person, int way) {
        if (!now.hasPerson(person) || way < DOWN || way > UP) {
            return BAD;
        }
        int old = now.way[person];
        if (way != old) {
            keepAct();
            now.way[person] = way;
        }
        return old;
    }

    public int hang(int stone, int side) {
        if (!now.hasStone(stone) || side < 0 || side >= SIDES) {
            return BAD;
        }
        int old = now.stoneSide[stone];
        if (side != old) {
            keepAct();
            now.stoneSide[stone] = side;
        }
        return old;
    }

    public int halves(int n) {
        if (!now.stands()) {
            return STATE;
        }
        if (n < 1 || n > MOST_HALVES) {
            return BAD;
        }
        if (now.minute + n > LAST_MINUTE) {
            return FULL;
        }
        keepAct();
        int first = NONE;
        for (int half = 1; half <= n; half++) {
            now.passHalf();
            if (first == NONE && now.isBeyond()) {
                first = half;
            }
        }
        return first;
    }

    public int year() {
        if (!now.stands()) {
            return STATE;
        }
        if (Math.abs(now.creptEast) > MOST_CREPT || Math.abs(now.creptNorth) > MOST_CREPT) {
            return FULL;
        }
        keepAct();
        now.passYear();
        return 1;
    }

    public int undo() {
        if (actCount == 0) {
            return STATE;
        }
        actCount--;
        now.takeFrom(before[(oldestAct + actCount) % MOST_ACTS]);
        return actCount;
    }

    public int person(int person, int what) {
        Person one = now.who(person);
        if (one == null) {
            return BAD;
        }
        switch (what) {
            case 0:
                return now.step[person];
            case 1:
                return now.way[person];
            case 2:
                return one.burden;
            case 3:
                return one.pace;
            case 4:
                return now.sideOf(person);
            default:
                return BAD;
        }
    }

    public int lean(int what) {
        if (!now.stands()) {
            return STATE;
        }
        switch (what) {
            case 0:
                return now.leanWith(EVERYONE, EAST);
            case 1:
                return now.leanWith(EVERYONE, NORTH);
            case 2:
                return now.isBeyond() ? 1 : 0;
            case 3:
                return now.creptEast;
            case 4:
                return now.creptNorth;
            default:
                return BAD;
        }
    }

    // ---- foretold

    public int worst(int what) {
        if (!now.stands()) {
            return STATE;
        }
        if (what < 0 || what > 1) {
            return BAD;
        }
        trial.takeFrom(now);
        return what == 0 ? trial.worstOver(FORETOLD_HALVES) : trial.firstBeyond(FORETOLD_HALVES);
    }

    public int most() {
        if (!now.stands()) {
            return STATE;
        }
        int outside = now.outsideSet();
        int best = NONE;
        int bestSize = -1;
        for (int set = 0; set <= outside; set++) {
            boolean larger = (set & ~outside) == 0 && Integer.bitCount(set) > bestSize;
            if (larger && mayGoUp(set)) {
                best = set;
                bestSize = Integer.bitCount(set);
            }
        }
        return best;
    }

    public int two(int a, int b, int what) {
        if (!now.isOutside(a) || !now.isOutside(b) || a == b || what < 0 || what > 1) {
            return BAD;
        }
        int bestDelay = 0;
        int least = worstOfTwo(a, b, 0);
        for (int delay = 1; delay <= MOST_DELAY; delay++) {
            int worst = worstOfTwo(a, b, delay);
            if (worst < least) {
                least = worst;
                bestDelay = delay;
            }
        }
        return what == 0 ? bestDelay : least;
    }

    public int stones(int k) {
        if (!now.stands()) {
            return STATE;
        }
        if (k != -1 && !now.hasStone(k)) {
            return BAD;
        }
        measureReach();
        int hangings = 1 << (2 * now.stones);
        int best = 0;
        int least = worstOfHanging(0);
        for (int hanging = 1; hanging < hangings; hanging++) {
            int worst = worstOfHanging(hanging);
            if (worst < least) {
                least = worst;
                best = hanging;
            }
        }
        return k == -1 ? least : sideIn(best, k);
    }

    public int marks(int row, int east, int north, int i) {
        if (!now.stands()) {
            return STATE;
        }
        Row told = rowAt(row);
        if (told == null || !isMark(east) || !isMark(north) || i < -1) {
            return BAD;
        }
        if (told.isMissing()) {
            return found(NULL_FOUND);
        }
        if (told.length < now.people) {
            return found(PLACE_FOUND);
        }
        if (!told.holds(now.people, OUTSIDE, now.steps - 1)) {
            return BAD;
        }
        trial.takeFrom(now);
        System.arraycopy(told.items, 0, trial.step, 0, now.people);
        return clean(setThatMakes(east, north, i));
    }

    public int rescue(int k) {
        if (!now.stands()) {
            return STATE;
        }
        if (k < 0) {
            return BAD;
        }
        int left = now.insideSet();
        findRescuable(left);
        if (!rescuable[left]) {
            return NONE;
        }
        for (int place = 0; left != 0 && place < MOST_PEOPLE; place++) {
            int next = nextOut(left);
            if (place == k) {
                return next;
            }
            left &= ~(1 << next);
        }
        return NONE;
    }

    public int fall() {
        if (!now.stands()) {
            return STATE;
        }
        trial.takeFrom(now);
        for (int years = 0; years <= FORETOLD_YEARS; years++) {
            if (trial.isBeyond()) {
                return years;
            }
            trial.passYear();
        }
        return NONE;
    }

    public int bells(int row, int n, int k) {
        Row nods = rowAt(row);
        if (nods == null || n < 1 || n > MOST_BELLS || k < -1) {
            return BAD;
        }
        if (nods.isMissing()) {
            return found(NULL_FOUND);
        }
        if (nods.length < n) {
            return found(PLACE_FOUND);
        }
        if (!nods.holds(n, 1, MOST_NOD)) {
            return BAD;
        }
        if (k >= n) {
            return clean(NONE);
        }
        belfry.findBest(nods.items, n);
        return clean(k == -1 ? belfry.least : belfry.best[k]);
    }

    public int image(int k) {
        if (k < 0 || k >= IMAGES) {
            return BAD;
        }
        if (!now.stands()) {
            return STATE;
        }
        images[k].takeFrom(now);
        return 1;
    }

    public int restore(int k) {
        if (k < 0 || k >= IMAGES) {
            return BAD;
        }
        if (!images[k].stands()) {
            return STATE;
        }
        now.takeFrom(images[k]);
        actCount = 0;
        return 1;
    }

    // ---- asked

    public int kind(int person) {
        Person one = now.who(person);
        return one == null ? BAD : one.ownKind();
    }

    public int as(int person, int kind) {
        Person one = now.who(person);
        if (one == null || kind < PERSON || kind > BISHOP) {
            return BAD;
        }
        return isOne(one, kind) ? clean(person) : found(KIND_FOUND);
    }

    public int ask(int person, int what) {
        Person one = now.who(person);
        if (one == null || what < 0 || what > 1) {
            return BAD;
        }
        bodies.length = 0;
        return what == 0 ? one.size(bodies) : one.mark(bodies);
    }

    public int trace(int i) {
        return i < 0 || i >= bodies.length ? NONE : bodies.numbers[i];
    }

    public int count(int what) {
        switch (what) {
            case 0:
                return rowsThere();
            case 1:
                return now.people;
            case 2:
                return now.stones;
            case 3:
                return now.minute;
            case 4:
                return actCount;
            case 5:
                return Integer.bitCount(now.insideSet());
            case 6:
                return reader.bytes;
            default:
                return BAD;
        }
    }

    public int status() {
        return latestFinding;
    }

    // ---- what the calls share

    /** Null: there is no such ROW, not even a missing one. */
    private Row rowAt(int row) {
        return row < 0 || row >= ROWS ? null : rows[row];
    }

    private int rowsThere() {
        int there = 0;
        for (int i = 0; i < ROWS; i++) {
            if (!rows[i].isMissing()) {
                there++;
            }
        }
        return there;
    }

    private int found(int finding) {
        latestFinding = finding;
        return FINDING_BASE - finding;
    }

    /** The answer of a call with a ROW, or of as(), that had no FINDING. */
    private int clean(int answer) {
        latestFinding = 0;
        return answer;
    }

    private void keepAct() {
        before[(oldestAct + actCount) % MOST_ACTS].takeFrom(now);
        if (actCount == MOST_ACTS) {
            oldestAct = (oldestAct + 1) % MOST_ACTS;
        } else {
            actCount++;
        }
    }

    private boolean mayGoUp(int set) {
        trial.takeFrom(now);
        for (int i = 0; i < trial.people; i++) {
            if ((set >> i & 1) == 1) {
                trial.way[i] = UP;
            }
        }
        return trial.firstBeyond(FORETOLD_HALVES) == NONE;
    }

    /** WORST if a goes up from now on, and b, who stands until then, some HALVES later. */
    private int worstOfTwo(int a, int b, int delay) {
        trial.takeFrom(now);
        trial.way[a] = UP;
        trial.way[b] = STANDS;
        int early = trial.worstOver(delay);
        trial.way[b] = UP;
        return Math.max(early, trial.worstOver(FORETOLD_HALVES - delay));
    }

    /** STONES pull alike at all times: so only the farthest LEANS without them matter. */
    private void measureReach() {
        trial.takeFrom(now);
        trial.stones = 0;
        for (int half = 0; half <= FORETOLD_HALVES; half++) {
            for (int side = 0; side < SIDES; side++) {
                int lean = trial.leanWith(EVERYONE, side);
                reach[side] = half == 0 ? lean : Math.max(reach[side], lean);
            }
            trial.passHalf();
        }
    }

    private int worstOfHanging(int hanging) {
        int worst = 0;
        for (int side = 0; side < SIDES; side++) {
            int lean = reach[side];
            for (int i = 0; i < now.stones; i++) {
                lean += Tower.pull(now.stoneWeight[i], sideIn(hanging, i), side);
            }
            worst = Math.max(worst, lean);
        }
        return worst;
    }

    /** A hanging has two bits a STONE, STONE 0 highest, so that the first row is the least. */
    private int sideIn(int hanging, int stone) {
        return hanging >> (2 * (now.stones - 1 - stone)) & 3;
    }

    private static boolean isMark(int lean) {
        return lean >= -MOST_MARK && lean <= MOST_MARK;
    }

    /** Of the sets by which the trial makes just these LEANS the i-th, or how many (i = -1). */
    private int setThatMakes(int east, int north, int i) {
        int fits = 0;
        for (int set = 0; set < 1 << trial.people; set++) {
            if (trial.leanWith(set, EAST) == east && trial.leanWith(set, NORTH) == north) {
                if (fits == i) {
                    return set;
                }
                fits++;
            }
        }
        return i == -1 ? fits : NONE;
    }

    /** Sets go up by number, so each is looked at behind all that it leaves when one is out. */
    private void findRescuable(int inside) {
        for (int set = 0; set <= inside; set++) {
            boolean lawful = (set & ~inside) == 0 && now.tiltWith(set) <= now.law;
            rescuable[set] = lawful && (set == 0 || nextOut(set) != NONE);
        }
    }

    /** The first of a set who may be brought out so that the others can be, too; or NONE. */
    private int nextOut(int set) {
        for (int i = 0; i < MOST_PEOPLE; i++) {
            if ((set >> i & 1) == 1 && rescuable[set & ~(1 << i)]) {
                return i;
            }
        }
        return NONE;
    }

    private static boolean isOne(Person one, int kind) {
        switch (kind) {
            case PERSON:
                return true;
            case PILGRIM:
                return one instanceof Pilgrim;
            case WIDOW:
                return one instanceof Widow;
            case BOY:
                return one instanceof Boy;
            case MONK:
                return one instanceof Monk;
            case BISHOP:
                return one instanceof Bishop;
            default:
                return false;
        }
    }

    private static final class Row {
        static final int MISSING = -1;
        static final int BYTES = 0;
        static final int SHORTS = 1;
        static final int INTS = 2;

        final int[] items = new int[MOST_ITEMS];
        int lane = MISSING;
        int length;

        boolean isMissing() {
            return lane == MISSING;
        }

        void begin(int newLane, int n) {
            lane = newLane;
            length = n;
            for (int i = 0; i < MOST_ITEMS; i++) {
                items[i] = 0;
            }
        }

        void end() {
            lane = MISSING;
            length = 0;
        }

        int narrowed(int v) {
            switch (lane) {
                case BYTES:
                    return (byte) v;
                case SHORTS:
                    return (short) v;
                default:
                    return v;
            }
        }

        /** Whether there are n ITEMS from one on; written so that no sum can wrap around. */
        boolean reaches(int from, int n) {
            return from >= 0 && n >= 0 && from <= length && n <= length - from;
        }

        /** Whether its first n ITEMS, which are there, all lie between two numbers. */
        boolean holds(int n, int least, int greatest) {
            for (int i = 0; i < n && i < MOST_ITEMS; i++) {
                if (items[i] < least || items[i] > greatest) {
                    return false;
                }
            }
            return true;
        }
    }

    /** A TOWER with all that its ACTS change; it has no STEPS, until one was taken over. */
    private static final class Tower {
        int steps;
        int law;
        int people;
        int stones;
        final Person[] persons = new Person[MOST_PEOPLE];
        final int[] step = new int[MOST_PEOPLE];
        final int[] way = new int[MOST_PEOPLE];
        final int[] stoneWeight = new int[MOST_STONES];
        final int[] stoneSide = new int[MOST_STONES];
        int minute;
        int creptEast;
        int creptNorth;

        boolean stands() {
            return steps > 0;
        }

        void clear() {
            steps = 0;
            law = 0;
            people = 0;
            stones = 0;
            minute = 0;
            creptEast = 0;
            creptNorth = 0;
        }

        void takeFrom(Tower other) {
            steps = other.steps;
            law = other.law;
            people = other.people;
            stones = other.stones;
            minute = other.minute;
            creptEast = other.creptEast;
            creptNorth = other.creptNorth;
            for (int i = 0; i < MOST_PEOPLE; i++) {
                persons[i] = other.persons[i];
                step[i] = other.step[i];
                way[i] = other.way[i];
            }
            for (int i = 0; i < MOST_STONES; i++) {
                stoneWeight[i] = other.stoneWeight[i];
                stoneSide[i] = other.stoneSide[i];
            }
        }

        void addPerson(Person one, int where) {
            if (people < MOST_PEOPLE) {
                persons[people] = one;
                step[people] = where;
                way[people] = STANDS;
                people++;
            }
        }

        void addStone(int weight, int side) {
            if (stones < MOST_STONES) {
                stoneWeight[stones] = weight;
                stoneSide[stones] = side;
                stones++;
            }
        }

        boolean hasPerson(int person) {
            return person >= 0 && person < people;
        }

        boolean hasStone(int stone) {
            return stone >= 0 && stone < stones;
        }

        /** Null: there is no such one. */
        Person who(int person) {
            return hasPerson(person) ? persons[person] : null;
        }

        boolean isOutside(int person) {
            return hasPerson(person) && step[person] == OUTSIDE;
        }

        int outsideSet() {
            int set = 0;
            for (int i = 0; i < people; i++) {
                if (step[i] == OUTSIDE) {
                    set |= 1 << i;
                }
            }
            return set;
        }

        int insideSet() {
            return ((1 << people) - 1) & ~outsideSet();
        }

        int sideOf(int person) {
            boolean onSide = step[person] >= 0 && step[person] < steps - 1;
            return onSide ? step[person] % SIDES : NONE;
        }

        /** What a weight on a SIDE adds to the LEAN towards one; opposite SIDES are two apart. */
        static int pull(int weight, int side, int towards) {
            if (side == towards) {
                return weight;
            }
            return side == (towards ^ 2) ? -weight : 0;
        }

        /** The LEAN towards a SIDE, if of the PEOPLE only those of a set were there. */
        int leanWith(int set, int towards) {
            int sum = pull(creptEast, EAST, towards) + pull(creptNorth, NORTH, towards);
            for (int i = 0; i < stones; i++) {
                sum += pull(stoneWeight[i], stoneSide[i], towards);
            }
            for (int i = 0; i < people; i++) {
                Person one = persons[i];
                if (one != null && (set >> i & 1) == 1) {
                    sum += pull(one.burden, sideOf(i), towards);
                }
            }
            return sum;
        }

        /** The greater of both LEANS, without sign, if only those of a set were there. */
        int tiltWith(int set) {
            return Math.max(Math.abs(leanWith(set, EAST)), Math.abs(leanWith(set, NORTH)));
        }

        boolean isBeyond() {
            return tiltWith(EVERYONE) > law;
        }

        void passHalf() {
            if (minute >= 9999) return;
            minute++;
            for (int i = 0; i < people; i++) {
                Person one = persons[i];
                if (one != null && one.pace > 0 && minute % one.pace == 0) {
                    move(i, one.stride());
                }
            }
        }

        private void move(int person, int stride) {
            if (way[person] == STANDS) {
                return;
            }
            int goal = way[person] == UP ? steps - 1 : OUTSIDE;
            int left = Math.abs(goal - step[person]);
            step[person] += way[person] * Math.min(stride, left);
            if (step[person] == goal) {
                way[person] = STANDS;
            }
        }

        void passYear() {
            int east = leanWith(EVERYONE, EAST);
            int north = leanWith(EVERYONE, NORTH);
            creptEast += east / 10;
            creptNorth += north / 10;
        }

        /** WORST, now and behind each of some HALVES, which pass. */
        int worstOver(int halves) {
            int worst = tiltWith(EVERYONE);
            for (int half = 0; half < halves; half++) {
                passHalf();
                worst = Math.max(worst, tiltWith(EVERYONE));
            }
            return worst;
        }

        /** FIRST; only the HALVES ahead of it pass. */
        int firstBeyond(int halves) {
            for (int half = 0; half <= halves; half++) {
                if (isBeyond()) {
                    return half;
                }
                passHalf();
            }
            return NONE;
        }
    }

    /** The numbers of BODIES as they began. */
    private static final class Trace {
        static final int MOST_NUMBERS = 16;

        final int[] numbers = new int[MOST_NUMBERS];
        int length;

        void leave(int body) {
            if (length < MOST_NUMBERS) {
                numbers[length] = body;
                length++;
            }
        }
    }

    /** One of the PEOPLE; what he never changes, so that TOWERS can share him. */
    private abstract static class Person {
        final int number;
        final int burden;
        final int pace;

        Person(int number, int burden, int pace) {
            this.number = number;
            this.burden = burden;
            this.pace = pace;
        }

        abstract int ownKind();

        int stride() {
            return 1;
        }

        int size(Trace bodies) {
            bodies.leave(10);
            return burden;
        }

        int mark(Trace bodies) {
            bodies.leave(20);
            return number;
        }
    }

    private static class Pilgrim extends Person {
        Pilgrim(int number, int burden, int pace) {
            super(number, burden, pace);
        }

        int ownKind() {
            return PILGRIM;
        }

        int size(Trace bodies) {
            bodies.leave(11);
            int lent = super.size(bodies);
            return lent + mark(bodies);
        }

        int mark(Trace bodies) {
            bodies.leave(21);
            return super.mark(bodies) + pace;
        }
    }

    private static final class Widow extends Pilgrim {
        Widow(int number, int weight, int pace) {
            super(number, 2 * weight, pace);
        }

        int ownKind() {
            return WIDOW;
        }

        int mark(Trace bodies) {
            bodies.leave(22);
            return super.mark(bodies) - 1000;
        }
    }

    private static final class Boy extends Pilgrim {
        Boy(int number, int weight, int pace) {
            super(number, weight / 2, pace);
        }

        int ownKind() {
            return BOY;
        }

        int size(Trace bodies) {
            bodies.leave(12);
            return -super.size(bodies);
        }

        int mark(Trace bodies) {
            bodies.leave(24);
            return 2 * super.mark(bodies);
        }
    }

    private static class Monk extends Person {
        Monk(int number, int burden, int pace) {
            super(number, burden, pace);
        }

        int ownKind() {
            return MONK;
        }

        int stride() {
            return 2;
        }

        int size(Trace bodies) {
            bodies.leave(13);
            return super.size(bodies) - 100;
        }

        int mark(Trace bodies) {
            bodies.leave(23);
            int lent = super.mark(bodies);
            return lent - size(bodies);
        }
    }

    private static final class Bishop extends Monk {
        Bishop(int number, int weight, int pace) {
            super(number, weight + 5, pace);
        }

        int ownKind() {
            return BISHOP;
        }

        /** He is asked as a MONK is, but goes as others do. */
        int stride() {
            return 1;
        }

        int size(Trace bodies) {
            bodies.leave(14);
            return 2 * super.size(bodies);
        }
    }

    /** THE TAPE, and how a TOWER is read from it, a TOKEN at a time. */
    private static final class Reader {
        static final int MOST_BYTES = 400;
        private static final int MOST_FIGURES = 3;

        private static final int MISPLACED = 1;
        private static final int UNTOLD_NUMBER = 2;
        private static final int NO_ROOM = 3;

        private static final int END = 0;
        private static final int NAME = 1;
        private static final int NUMBER = 2;
        private static final int SEMICOLON = 3;
        private static final int NO_TOKEN = 4;

        /** What number() gives, if there was a FAULT. */
        private static final int FAULTY = -1;
        private static final int TOLD_OUTSIDE = 99;

        private final byte[] tape = new byte[MOST_BYTES];
        int bytes;
        int latestFault;
        int faultPlace;
        private int tokenStart;
        private int tokenEnd;
        private int token;
        private int tokenValue;

        void append(byte b) {
            if (bytes < MOST_BYTES) {
                tape[bytes] = b;
                bytes++;
            }
        }

        /** Whether a whole TOWER was read, without a FAULT; the tape is empty then, anyway. */
        boolean readInto(Tower draft) {
            draft.clear();
            tokenEnd = 0;
            next();
            boolean right = readLaw(draft);
            for (int i = 0; right && i <= MOST_PEOPLE && isWord("person"); i++) {
                right = readPerson(draft);
            }
            for (int i = 0; right && i <= MOST_STONES && isWord("stone"); i++) {
                right = readStone(draft);
            }
            right = right && (token == END || refuse(MISPLACED));
            bytes = 0;
            return right;
        }

        private boolean readLaw(Tower draft) {
            if (!isWord("law")) {
                return refuse(MISPLACED);
            }
            next();
            draft.steps = number(4, 32);
            if (draft.steps == FAULTY) {
                return false;
            }
            draft.law = number(1, 99);
            return draft.law != FAULTY && passSemicolon();
        }

        private boolean readPerson(Tower draft) {
            if (draft.people >= MOST_PEOPLE) {
                return refuse(NO_ROOM);
            }
            next();
            int kind = kindAtHand();
            if (kind == PERSON) {
                return refuse(MISPLACED);
            }
            next();
            int weight = number(1, 20);
            if (weight == FAULTY) {
                return false;
            }
            int pace = number(1, 4);
            if (pace == FAULTY) {
                return false;
            }
            boolean out = token == NUMBER && tokenValue == TOLD_OUTSIDE;
            int step = number(0, out ? TOLD_OUTSIDE : draft.steps - 1);
            if (step == FAULTY) {
                return false;
            }
            draft.addPerson(newPerson(kind, draft.people, weight, pace), out ? OUTSIDE : step);
            return passSemicolon();
        }

        private boolean readStone(Tower draft) {
            if (draft.stones >= MOST_STONES) {
                return refuse(NO_ROOM);
            }
            next();
            int weight = number(1, 20);
            if (weight == FAULTY) {
                return false;
            }
            int side = number(0, SIDES - 1);
            if (side == FAULTY) {
                return false;
            }
            draft.addStone(weight, side);
            return passSemicolon();
        }

        /** The KIND that the SORT at hand names; PERSON: it names none. */
        private int kindAtHand() {
            if (isWord("pilgrim")) {
                return PILGRIM;
            }
            if (isWord("widow")) {
                return WIDOW;
            }
            if (isWord("boy")) {
                return BOY;
            }
            if (isWord("monk")) {
                return MONK;
            }
            return isWord("bishop") ? BISHOP : PERSON;
        }

        private static Person newPerson(int kind, int number, int weight, int pace) {
            switch (kind) {
                case WIDOW:
                    return new Widow(number, weight, pace);
                case BOY:
                    return new Boy(number, weight, pace);
                case MONK:
                    return new Monk(number, weight, pace);
                case BISHOP:
                    return new Bishop(number, weight, pace);
                default:
                    return new Pilgrim(number, weight, pace);
            }
        }

        /** The NUMBER at hand, which is passed; FAULTY: it is none, or not as told. */
        private int number(int least, int greatest) {
            if (token != NUMBER) {
                refuse(MISPLACED);
                return FAULTY;
            }
            if (tokenValue < least || tokenValue > greatest) {
                refuse(UNTOLD_NUMBER);
                return FAULTY;
            }
            int value = tokenValue;
            next();
            return value;
        }

        private boolean passSemicolon() {
            if (token != SEMICOLON) {
                return refuse(MISPLACED);
            }
            next();
            return true;
        }

        /** A FAULT of the TOKEN at hand; false always, for those who answer by it. */
        private boolean refuse(int number) {
            latestFault = number;
            faultPlace = tokenStart;
            return false;
        }

        private boolean isWord(String word) {
            if (token != NAME || tokenEnd - tokenStart != word.length()) {
                return false;
            }
            for (int i = 0; i < word.length(); i++) {
                if (tape[tokenStart + i] != word.charAt(i)) {
                    return false;
                }
            }
            return true;
        }

        /** The TOKEN behind the one at hand comes to hand; at the end it starts there. */
        private void next() {
            tokenStart = tokenEnd;
            while (tokenStart < bytes && isBlank(tape[tokenStart])) {
                tokenStart++;
            }
            tokenEnd = tokenStart;
            if (tokenStart >= bytes) {
                token = END;
            } else if (isLetter(tape[tokenStart])) {
                passLetters();
            } else if (isFigure(tape[tokenStart])) {
                passFigures();
            } else {
                token = tape[tokenStart] == ';' ? SEMICOLON : NO_TOKEN;
                tokenEnd++;
            }
        }

        private void passLetters() {
            token = NAME;
            while (tokenEnd < bytes && isLetter(tape[tokenEnd])) {
                tokenEnd++;
            }
        }

        private void passFigures() {
            tokenValue = 0;
            while (tokenEnd < bytes && isFigure(tape[tokenEnd])) {
                tokenValue = 10 * tokenValue + tape[tokenEnd] - '0';
                tokenEnd++;
            }
            token = tokenEnd - tokenStart <= MOST_FIGURES ? NUMBER : NO_TOKEN;
        }

        private static boolean isBlank(byte b) {
            return b == 32 || b == 10;
        }

        private static boolean isLetter(byte b) {
            return b >= 'a' && b <= 'z';
        }

        private static boolean isFigure(byte b) {
            return b >= '0' && b <= '9';
        }
    }

    /** BELLS: all orders are tried, the first ones first. */
    private static final class Bells {
        private static final int ABOVE_ANY_SUM = MOST_BELLS * MOST_NOD + 1;

        private final int[] nods = new int[MOST_BELLS];
        private final int[] order = new int[MOST_BELLS];
        private int bells;
        final int[] best = new int[MOST_BELLS];
        int least;

        void findBest(int[] row, int n) {
            bells = Math.min(n, MOST_BELLS);
            for (int i = 0; i < bells && i < row.length; i++) {
                nods[i] = row[i];
            }
            least = ABOVE_ANY_SUM;
            ringFrom(0, 0, 0, 0);
        }

        /** An order that is not better than the best is given up: of several the first counts. */
        private void ringFrom(int place, int rung, int sum, int greatest) {
            if (greatest >= least) {
                return;
            }
            if (place >= bells) {
                least = greatest;
                System.arraycopy(order, 0, best, 0, bells);
                return;
            }
            for (int bell = 0; bell < bells; bell++) {
                if ((rung >> bell & 1) == 0) {
                    order[place] = bell;
                    int then = place % 2 == 0 ? sum + nods[bell] : sum - nods[bell];
                    int sofar = Math.max(greatest, Math.abs(then));
                    ringFrom(place + 1, rung | 1 << bell, then, sofar);
                }
            }
        }
    }
}
