/**
 * The town of the oven: rings of cells round a fire, doors between them, and houses that live by
 * the heat. ../shared/DOC.md says what each call answers; words in capitals are the document's.
 */
public final class OvenRings {
    private static final int LOW = -1000000000;
    private static final int BEYOND = 1;
    private static final int NONE = 2;
    private static final int STATE = 3;
    private static final int FULL = 4;
    private static final int KIND = 5;

    private static final int CELLS = 16;
    private static final int SIDES = 4;
    private static final int DOORS = 12;
    private static final int ALL_DOORS = 4095;
    private static final int HOUSES = 8;
    private static final int SHEETS = 4;

    private static final int MOST_HEAT = 999;
    private static final int MOST_FED = 99;
    private static final int MOST_WANTS = 9999;
    private static final int MOST_BURNT = 99999;
    private static final int MOST_WARM = 9999;
    private static final int MOST_HOUR = 9999;
    private static final int MOST_KM = 69;
    private static final int MOST_BYTES = 50;
    private static final int MOST_WAITING = 20;
    private static final int MOST_BODIES = 40;
    private static final int MOST_NUMBERS = 40;
    private static final int FAR = 60;

    private static final int WANTED = 0;
    private static final int GOES = 1;
    private static final String WANTED_NAMES = "fhw";
    private static final String GOES_NAMES = "drh";

    private final Town now = new Town();
    private final Town kept = new Town();
    private final Town thought = new Town();
    private final Reader reader = new Reader();
    private final Voice speaker = new Voice();
    private final Sheet[] sheets = new Sheet[SHEETS];
    private final int[] warmUnchanged = new int[HOUSES];
    private final int[] errors = new int[KIND + 1];
    private int images;

    public OvenRings() {
        for (int i = 0; i < sheets.length; i++) {
            sheets[i] = new Sheet();
        }
    }

    // ---- cells, doors, the fire

    public int heat(int cell, int v) {
        if (!isCell(cell) || !within(v, 0, MOST_HEAT)) {
            return error(BEYOND);
        }
        int was = now.heat[cell];
        now.heat[cell] = v;
        return was;
    }

    public int ofCell(int cell, int what) {
        if (!isCell(cell)) {
            return error(BEYOND);
        }
        switch (what) {
            case 0:
                return now.heat[cell];
            case 1:
                return cell / SIDES;
            case 2:
                return now.housesIn(cell);
            default:
                return error(BEYOND);
        }
    }

    public int door(int door, int is) {
        if (!isDoor(door) || !within(is, 0, 1)) {
            return error(BEYOND);
        }
        int was = now.doors >> door & 1;
        if (was != is) {
            now.doors ^= 1 << door;
        }
        return was;
    }

    public int doorsNow() {
        return now.doors;
    }

    public int fire(int what, int v) {
        int was;
        if (what == 0 && within(v, 0, MOST_FED)) {
            was = now.fed;
            now.fed = v;
        } else if (what == 1 && within(v, 0, MOST_WANTS)) {
            was = now.wants;
            now.wants = v;
        } else if (what == 2 && within(v, 0, MOST_BURNT)) {
            was = now.burnt;
            now.burnt = v;
        } else {
            was = error(BEYOND);
        }
        return was;
    }

    // ---- houses

    public int house(int km, int cell) {
        if (!within(km, 0, MOST_KM) || !isCell(cell)) {
            return error(BEYOND);
        }
        int number = now.houses;
        if (number >= HOUSES) {
            return error(FULL);
        }
        now.km[number] = km;
        now.cell[number] = cell;
        now.warm[number] = 0;
        now.houses = number + 1;
        return number;
    }

    public int ofHouse(int house, int what) {
        if (!isHouse(house)) {
            return error(BEYOND);
        }
        switch (what) {
            case 0:
                return now.kindOf(house);
            case 1:
                return now.mOf(house);
            case 2:
                return now.cell[house];
            case 3:
                return now.warm[house];
            case 4:
                return now.leastOf(house);
            case 5:
                return now.mostOf(house);
            case 6:
                return now.takesOf(house);
            case 7:
                return now.isContent(house) ? 1 : 0;
            default:
                return error(BEYOND);
        }
    }

    public int change(int house, int what, int v) {
        if (!isHouse(house)) {
            return error(BEYOND);
        }
        int was;
        if (what == 0 && isCell(v)) {
            was = now.cell[house];
            now.cell[house] = v;
        } else if (what == 1 && within(v, 0, MOST_WARM)) {
            was = now.warm[house];
            now.warm[house] = v;
        } else {
            was = error(BEYOND);
        }
        return was;
    }

    public int become(int house, int km) {
        if (!isHouse(house) || !within(km, 0, MOST_KM)) {
            return error(BEYOND);
        }
        int was = now.kindOf(house);
        now.km[house] = km;
        return was;
    }

    public int as(int house, int kind) {
        if (!isHouse(house) || !Kinds.isKind(kind)) {
            return error(BEYOND);
        }
        if (!Kinds.isUnder(now.kindOf(house), kind)) {
            return error(KIND);
        }
        return now.mOf(house);
    }

    // ---- texts

    public int feed(long word, int n) {
        if (!within(n, 1, 8)) {
            return error(BEYOND);
        }
        if (now.tape.room() < n) {
            return error(FULL);
        }
        for (int i = 0; i < n; i++) {
            now.tape.add((int) (word >>> 8 * i) & 255);
        }
        return now.tape.many;
    }

    public int text(int use) {
        if (!isUse(use)) {
            return error(BEYOND);
        }
        Law law = use == WANTED ? now.wanted : now.goes;
        boolean isText = reader.reads(now.tape, use == WANTED ? WANTED_NAMES : GOES_NAMES);
        now.tape.many = 0;
        if (!isText) {
            return -10 - reader.at;
        }
        law.steps.copyFrom(reader.steps);
        return 1;
    }

    public int law(int use, int a, int b, int c) {
        if (!isUse(use)) {
            return error(BEYOND);
        }
        return (use == WANTED ? now.wanted : now.goes).gives(a, b, c);
    }

    // ---- hours

    public int hours(int n) {
        if (!within(n, 1, FAR)) {
            return error(BEYOND);
        }
        if (now.hour + n > MOST_HOUR) {
            return error(STATE);
        }
        now.pass(n);
        return now.heatOfAll();
    }

    public int loose(int n) {
        if (!within(n, 1, 40)) {
            return error(BEYOND);
        }
        if (now.hour + n > MOST_HOUR) {
            return error(STATE);
        }
        for (int i = 0; i < n; i++) {
            now.drawFedAndDoor();
            now.pass(1);
        }
        return now.heatOfAll();
    }

    // ---- what would be

    public int then(int n, int cell) {
        if (!within(n, 0, FAR) || !isCell(cell)) {
            return error(BEYOND);
        }
        return behind(0, n).heat[cell];
    }

    public int hot(int v, int what) {
        if (!within(v, 1, MOST_HEAT) || !within(what, 0, 1)) {
            return error(BEYOND);
        }
        Town town = behind(0, 0);
        for (int n = 0; n <= FAR; n++) {
            int cell = town.firstOf(v);
            if (cell >= 0) {
                return what == 0 ? n : cell;
            }
            town.pass(1);
        }
        return error(NONE);
    }

    public int feedFor(int houses, int n) {
        if (houses < 0 || houses >> now.houses != 0 || !within(n, 1, 30)) {
            return error(BEYOND);
        }
        for (int fed = 0; fed <= MOST_FED; fed++) {
            if ((contentWith(fed, n) & houses) == houses) {
                return fed;
            }
        }
        return error(NONE);
    }

    public int open(int house, int n) {
        if (!isHouse(house) || !within(n, 0, 20)) {
            return error(BEYOND);
        }
        int best = -1;
        int most = behind(0, n).warm[house];
        for (int door = 0; door < DOORS; door++) {
            int warm = behind(1 << door, n).warm[house];
            if (warm > most) {
                most = warm;
                best = door;
            }
        }
        return best;
    }

    public int doors(int house, int v, int n) {
        if (!isHouse(house) || !within(v, 0, MOST_HEAT) || !within(n, 0, 20)) {
            return error(BEYOND);
        }
        int cell = now.cell[house];
        if (behind(0, n).heatOf(cell) >= v) {
            return 0;
        }
        for (int door = 0; door < DOORS; door++) {
            if (behind(1 << door, n).heatOf(cell) >= v) {
                return 1 << door;
            }
        }
        // the higher DOOR goes round outside, so that sets come from the least on
        for (int high = 1; high < DOORS; high++) {
            for (int low = 0; low < high; low++) {
                int set = 1 << high | 1 << low;
                if (behind(set, n).heatOf(cell) >= v) {
                    return set;
                }
            }
        }
        return error(NONE);
    }

    public int which(int sheet, int what) {
        if (!isSheet(sheet) || !within(what, 0, 1)) {
            return error(BEYOND);
        }
        Sheet told = sheets[sheet];
        if (told.isMissing() || told.row.many != CELLS) {
            return error(NONE);
        }
        int set = 0;
        for (int door = 0; door < DOORS; door++) {
            if (behind(1 << door, 1).hasHeats(told.row)) {
                set |= 1 << door;
            }
        }
        return what == 0 ? set : Integer.bitCount(set);
    }

    public int settle(int house, int n, int what) {
        if (!isHouse(house) || !within(n, 0, 30) || !within(what, 0, 1)) {
            return error(BEYOND);
        }
        int best = 0;
        int most = -1;
        for (int cell = 0; cell < CELLS; cell++) {
            Town town = behind(0, 0);
            town.cell[house] = cell;
            town.pass(n);
            if (town.warm[house] > most) {
                most = town.warm[house];
                best = cell;
            }
        }
        return what == 0 ? best : most;
    }

    public int vote(int door, int n) {
        if (!isDoor(door) || !within(n, 0, 20)) {
            return error(BEYOND);
        }
        Town unchanged = behind(0, n);
        for (int i = 0; i < HOUSES; i++) {
            warmUnchanged[i] = unchanged.warm[i];
        }
        Town changed = behind(1 << door, n);
        int votes = 0;
        for (int i = 0; i < changed.houses && i < HOUSES; i++) {
            votes += Integer.compare(changed.warm[i], warmUnchanged[i]);
        }
        return votes;
    }

    public int cold(int n, int what) {
        if (!within(n, 0, FAR) || !within(what, 0, 1)) {
            return error(BEYOND);
        }
        Town town = behind(0, n);
        int cell = town.coldest();
        return what == 0 ? cell : town.heatOf(cell);
    }

    public int keeps(int cell) {
        if (!isCell(cell)) {
            return error(BEYOND);
        }
        int half = now.heat[cell] / 2;
        Town town = behind(0, 0);
        town.fed = 0;
        for (int n = 0; n <= FAR; n++) {
            if (town.heat[cell] < half) {
                return n;
            }
            town.pass(1);
        }
        return error(NONE);
    }

    public int fuel(int n) {
        if (!within(n, 0, FAR)) {
            return error(BEYOND);
        }
        return behind(0, n).burnt - now.burnt;
    }

    public int glad(int n) {
        if (!within(n, 0, FAR)) {
            return error(BEYOND);
        }
        return behind(0, n).warmOfAll() - now.warmOfAll();
    }

    public int odds(int house, int n, int part) {
        if (!isHouse(house) || !within(n, 1, FAR) || !within(part, 0, 1)) {
            return error(BEYOND);
        }
        int content = 0;
        for (int tens = 0; tens < 10; tens++) {
            content += contentWith(tens * 10, n) >> house & 1;
        }
        int common = commonWithTen(content);
        return (part == 0 ? content : 10) / common;
    }

    // ---- draws, voices, sheets, images, what is told

    public int seed(int v) {
        int was = now.z;
        now.z = v;
        return was;
    }

    public int voice(int house, int act, int x) {
        if (!isHouse(house) || !within(act, 0, 3)) {
            return error(BEYOND);
        }
        return speaker.speaks(house, now.km[house], act, x);
    }

    public int trace(int i) {
        if (!speaker.trace.has(i)) {
            return error(NONE);
        }
        return speaker.trace.at(i);
    }

    public int sheet(int sheet, int bits, int n) {
        if (!isSheet(sheet) || bits != 0 && bits != 8 && bits != 16 && bits != 32) {
            return error(BEYOND);
        }
        if (bits != 0 && n < 0) {
            return error(STATE);
        }
        if (bits != 0 && n > MOST_NUMBERS) {
            return error(BEYOND);
        }
        sheets[sheet].becomes(bits, bits == 0 ? 0 : n);
        return 1;
    }

    public int put(int sheet, int i, int v) {
        if (!isSheet(sheet)) {
            return error(BEYOND);
        }
        Sheet page = sheets[sheet];
        if (page.isMissing()) {
            return error(NONE);
        }
        if (!page.row.has(i)) {
            return error(BEYOND);
        }
        page.row.numbers[i] = page.cut(v);
        return 1;
    }

    public int move(int sheet, int i, int other, int j, int n) {
        if (!isSheet(sheet) || !isSheet(other)) {
            return error(BEYOND);
        }
        Sheet from = sheets[sheet];
        Sheet to = sheets[other];
        if (from.isMissing() || to.isMissing()) {
            return error(NONE);
        }
        if (from.bits != to.bits) {
            return error(KIND);
        }
        if (!from.row.hasRun(i, n) || !to.row.hasRun(j, n)) {
            return error(BEYOND);
        }
        System.arraycopy(from.row.numbers, i, to.row.numbers, j, n);
        return n;
    }

    public int heats(int sheet) {
        if (!isSheet(sheet)) {
            return error(BEYOND);
        }
        Sheet page = sheets[sheet];
        if (page.isMissing()) {
            return error(NONE);
        }
        int done = 0;
        for (int i = 0; i < CELLS && page.row.has(i); i++) {
            int v = page.row.at(i);
            if (!within(v, 0, MOST_HEAT)) {
                break;
            }
            now.heat[i] = v;
            done++;
        }
        return done;
    }

    public int judge(int sheet) {
        if (!isSheet(sheet)) {
            return error(BEYOND);
        }
        Sheet page = sheets[sheet];
        if (page.isMissing()) {
            return error(NONE);
        }
        int numbers = page.row.many;
        int both = Math.min(numbers, Math.min(now.houses, HOUSES));
        for (int i = 0; i < both; i++) {
            if (page.row.at(i) != now.cell[i]) {
                return i;
            }
        }
        return numbers == now.houses ? -1 : both;
    }

    public int image() {
        kept.copyFrom(now);
        images++;
        return images;
    }

    public int restore() {
        if (images == 0) {
            return error(NONE);
        }
        now.copyFrom(kept);
        return now.hour;
    }

    public int tell(int v) {
        if (now.waiting.room() == 0) {
            return error(FULL);
        }
        now.waiting.add(v);
        return now.waiting.many;
    }

    public int check() {
        Town town = behind(0, 0);
        Row waiting = now.waiting;
        int answer = 0;
        for (int i = 0; i < waiting.many && answer == 0; i++) {
            town.pass(1);
            if (waiting.at(i) != town.heatOfAll()) {
                answer = 1 + i;
            }
        }
        waiting.many = 0;
        return answer;
    }

    public int count(int what) {
        switch (what) {
            case 0:
                return now.houses;
            case 1:
                return now.hour;
            case 2:
                return now.fed;
            case 3:
                return now.wants;
            case 4:
                return now.burnt;
            case 5:
                return now.heatOfAll();
            case 6:
                return now.warmOfAll();
            case 7:
                return now.tape.many;
            case 8:
                return now.waiting.many;
            case 9:
                return speaker.trace.many;
            case 10:
                return now.z;
            default:
                return error(BEYOND);
        }
    }

    public int told(int k) {
        if (!within(k, BEYOND, KIND)) {
            return error(BEYOND);
        }
        return errors[k];
    }

    // ---- what the calls share

    /** Every ERROR is answered through here, so that told() knows of all of them. */
    private int error(int k) {
        if (k >= 0 && k < errors.length) {
            errors[k]++;
        }
        return LOW - k;
    }

    private static boolean within(int v, int least, int most) {
        return v >= least && v <= most;
    }

    private static boolean isCell(int cell) {
        return within(cell, 0, CELLS - 1);
    }

    private static boolean isDoor(int door) {
        return within(door, 0, DOORS - 1);
    }

    private static boolean isUse(int use) {
        return use == WANTED || use == GOES;
    }

    private static boolean isSheet(int sheet) {
        return within(sheet, 0, SHEETS - 1);
    }

    private boolean isHouse(int house) {
        return house >= 0 && house < now.houses && house < HOUSES;
    }

    /** The town n HOURS on, had a set of DOORS been changed now; one object serves every thought. */
    private Town behind(int set, int n) {
        thought.copyFrom(now);
        thought.doors ^= set;
        thought.pass(n);
        return thought;
    }

    /** HOUSES that are CONTENT in HOUR n from now on, as a set. */
    private int contentWith(int fed, int n) {
        thought.copyFrom(now);
        thought.fed = fed;
        thought.pass(n);
        return thought.content;
    }

    private static int commonWithTen(int v) {
        if (v % 10 == 0) {
            return 10;
        }
        if (v % 5 == 0) {
            return 5;
        }
        return v % 2 == 0 ? 2 : 1;
    }

    /** All that an IMAGE keeps, and what an HOUR does with it. */
    private static final class Town {
        final int[] heat = new int[CELLS];
        int doors = ALL_DOORS;
        int fed = 20;
        int wants;
        int burnt;
        int hour;
        int houses;
        final int[] km = new int[HOUSES];
        final int[] cell = new int[HOUSES];
        final int[] warm = new int[HOUSES];
        /** HOUSES that were CONTENT in the latest HOUR; WARM that is held does not tell it. */
        int content;
        /** What goes through each DOOR, known before any of it goes. */
        private final int[] going = new int[DOORS];
        final Law wanted = new Law(WANTED);
        final Law goes = new Law(GOES);
        final Row tape = new Row(MOST_BYTES);
        final Row waiting = new Row(MOST_WAITING);
        int z = 1;

        void copyFrom(Town other) {
            System.arraycopy(other.heat, 0, heat, 0, CELLS);
            doors = other.doors;
            fed = other.fed;
            wants = other.wants;
            burnt = other.burnt;
            hour = other.hour;
            houses = other.houses;
            System.arraycopy(other.km, 0, km, 0, HOUSES);
            System.arraycopy(other.cell, 0, cell, 0, HOUSES);
            System.arraycopy(other.warm, 0, warm, 0, HOUSES);
            content = other.content;
            wanted.steps.copyFrom(other.wanted.steps);
            goes.steps.copyFrom(other.goes.steps);
            tape.copyFrom(other.tape);
            waiting.copyFrom(other.waiting);
            z = other.z;
        }

        void pass(int n) {
            for (int i = 0; i < n; i++) {
                burn();
                flow();
                live();
                cool();
                hour++;
            }
        }

        private void burn() {
            for (int c = 0; c < SIDES; c++) {
                heat[c] = Math.min(heat[c] + fed, MOST_HEAT);
            }
            burnt = Math.min(burnt + SIDES * fed, MOST_BURNT);
            int wanting = wanted.gives(fed, hour % 24, wants % 100);
            wants = Math.max(0, Math.min(wants + wanting - fed, MOST_WANTS));
        }

        private void flow() {
            for (int d = 0; d < DOORS; d++) {
                int more = heat[d] - heat[d + SIDES];
                going[d] = 0;
                if (more > 0 && (doors >> d & 1) == 1) {
                    going[d] = Math.min(goes.gives(more, d / SIDES, hour % 24), more / 2);
                }
            }
            for (int d = 0; d < DOORS; d++) {
                heat[d] -= going[d];
                heat[d + SIDES] += going[d];
            }
        }

        private void live() {
            content = 0;
            for (int i = 0; i < houses && i < HOUSES; i++) {
                int c = cell[i];
                if (c >= 0 && c < CELLS) {
                    heat[c] -= takesOf(i);
                }
                if (isContent(i)) {
                    content |= 1 << i;
                    warm[i] = Math.min(warm[i] + 1, MOST_WARM);
                }
            }
        }

        private void cool() {
            for (int c = CELLS - SIDES; c < CELLS; c++) {
                heat[c] -= heat[c] / 4;
            }
        }

        private int draw() {
            z = z * 1103515245 + 12345;
            return z >>> 8;
        }

        void drawFedAndDoor() {
            fed = draw() % 40;
            int drawn = draw();
            if (drawn % 4 == 0) {
                doors ^= 1 << drawn / 8 % DOORS;
            }
        }

        int heatOf(int c) {
            return c >= 0 && c < CELLS ? heat[c] : 0;
        }

        int heatOfAll() {
            int all = 0;
            for (int c = 0; c < CELLS; c++) {
                all += heat[c];
            }
            return all;
        }

        int warmOfAll() {
            int all = 0;
            for (int i = 0; i < houses && i < HOUSES; i++) {
                all += warm[i];
            }
            return all;
        }

        /** The least cell of HEAT v or more; -1, if there is none. */
        int firstOf(int v) {
            for (int c = 0; c < CELLS; c++) {
                if (heat[c] >= v) {
                    return c;
                }
            }
            return -1;
        }

        int coldest() {
            int best = 0;
            for (int c = 1; c < CELLS; c++) {
                if (heat[c] < heat[best]) {
                    best = c;
                }
            }
            return best;
        }

        boolean hasHeats(Row row) {
            for (int c = 0; c < CELLS; c++) {
                if (row.at(c) != heat[c]) {
                    return false;
                }
            }
            return true;
        }

        int housesIn(int c) {
            int set = 0;
            for (int i = 0; i < houses && i < HOUSES; i++) {
                if (cell[i] == c) {
                    set |= 1 << i;
                }
            }
            return set;
        }

        int kindOf(int house) {
            return house >= 0 && house < HOUSES ? km[house] / 10 : 0;
        }

        int mOf(int house) {
            return house >= 0 && house < HOUSES ? km[house] % 10 : 0;
        }

        int leastOf(int house) {
            return Kinds.least(kindOf(house), mOf(house), hour);
        }

        int mostOf(int house) {
            return Kinds.most(kindOf(house));
        }

        /** What it would take of HEAT as it is: no more than there is. */
        int takesOf(int house) {
            if (house < 0 || house >= HOUSES) {
                return 0;
            }
            return Math.min(Kinds.takes(kindOf(house), hour), heatOf(cell[house]));
        }

        boolean isContent(int house) {
            if (house < 0 || house >= HOUSES) {
                return false;
            }
            int v = heatOf(cell[house]);
            return v >= leastOf(house) && v <= mostOf(house);
        }
    }

    /** What the KINDS are by; a KIND that is not named in a switch is as the KIND above it. */
    private static final class Kinds {
        static final int HOUSE = 0;
        static final int RICH = 1;
        static final int THIEF = 2;
        static final int WIDOW = 3;
        static final int BAKER = 4;
        static final int CHURCH = 5;
        static final int LODGER = 6;
        private static final int[] ABOVE = {-1, HOUSE, HOUSE, HOUSE, RICH, THIEF, WIDOW};

        static boolean isKind(int kind) {
            return kind >= 0 && kind < ABOVE.length;
        }

        static int above(int kind) {
            return isKind(kind) ? ABOVE[kind] : -1;
        }

        static boolean isUnder(int kind, int other) {
            int k = kind;
            for (int i = 0; i < ABOVE.length && k != other; i++) {
                k = above(k);
            }
            return k == other;
        }

        static int least(int kind, int m, int hour) {
            int ofWidow = hour % 3 == 0 ? 30 : 40;
            switch (kind) {
                case RICH:
                    return 40 + 2 * m;
                case THIEF:
                    return 20;
                case WIDOW:
                    return ofWidow;
                case BAKER:
                    return 100;
                case CHURCH:
                    return 20 - m;
                case LODGER:
                    return ofWidow + m;
                default:
                    return 40;
            }
        }

        static int most(int kind) {
            switch (kind) {
                case RICH:
                case BAKER:
                    return 300;
                case CHURCH:
                    return 60;
                case LODGER:
                    return 150;
                default:
                    return 200;
            }
        }

        static int takes(int kind, int hour) {
            switch (kind) {
                case RICH:
                    return 6;
                case THIEF:
                    return 1;
                case BAKER:
                    return 0;
                case CHURCH:
                    return 1 + hour % 5;
                default:
                    return 2;
            }
        }
    }

    /** Numbers in a row of a fixed length, of which the first ones stand. */
    private static final class Row {
        final int[] numbers;
        int many;

        Row(int most) {
            numbers = new int[Math.max(most, 0)];
        }

        boolean has(int i) {
            return i >= 0 && i < many && i < numbers.length;
        }

        boolean hasRun(int i, int n) {
            return i >= 0 && n >= 0 && n <= many && i <= many - n && many <= numbers.length;
        }

        int room() {
            return numbers.length - many;
        }

        int at(int i) {
            return has(i) ? numbers[i] : 0;
        }

        boolean add(int v) {
            if (many < 0 || many >= numbers.length) {
                return false;
            }
            numbers[many] = v;
            many++;
            return true;
        }

        void copyFrom(Row other) {
            int n = Math.min(other.many, numbers.length);
            if (n >= 0 && n <= other.numbers.length) {
                System.arraycopy(other.numbers, 0, numbers, 0, n);
                many = n;
            }
        }
    }

    /** A SHEET: its numbers have a sign, as Java's own numbers of 8, 16 and 32 bits. */
    private static final class Sheet {
        final Row row = new Row(MOST_NUMBERS);
        int bits;

        boolean isMissing() {
            return bits == 0;
        }

        void becomes(int newBits, int n) {
            bits = newBits;
            row.many = 0;
            for (int i = 0; i < n; i++) {
                row.add(0);
            }
        }

        int cut(int v) {
            if (bits == 8) {
                return (byte) v;
            }
            return bits == 16 ? (short) v : v;
        }
    }

    /**
     * The TEXT of a USE, as steps: a number below NAME lays itself on the pile, NAME and more lays
     * what a name is, SIGN and more works on what lies there last. No steps: there is no TEXT.
     */
    private static final class Law {
        static final int NAME = 10000;
        static final int SIGN = 20000;
        final Row steps = new Row(MOST_BYTES);
        private final int[] pile = new int[MOST_BYTES];
        private final int use;

        Law(int use) {
            this.use = use;
        }

        /** What no TEXT gives is held too: what law() answers is nowhere said to be below 0. */
        int gives(int a, int b, int c) {
            int worth = use == WANTED ? 20 : a / 3;
            if (steps.many > 0) {
                worth = worth(a, b, c);
            }
            return Math.max(0, Math.min(worth, use == WANTED ? 99 : 999));
        }

        private int worth(int a, int b, int c) {
            int high = 0;
            for (int i = 0; i < steps.many && i < steps.numbers.length; i++) {
                int step = steps.numbers[i];
                if (step < SIGN && high < pile.length) {
                    pile[high] = step < NAME ? step : step == NAME ? a : step == NAME + 1 ? b : c;
                    high++;
                } else if (step == SIGN + '!' && high >= 1) {
                    pile[high - 1] = pile[high - 1] == 0 ? 1 : 0;
                } else if (high >= 2) {
                    pile[high - 2] = works(step - SIGN, pile[high - 2], pile[high - 1]);
                    high--;
                }
            }
            return pile[0];
        }

        private static int works(int sign, int a, int b) {
            switch (sign) {
                case '|':
                    return a != 0 || b != 0 ? 1 : 0;
                case '&':
                    return a != 0 && b != 0 ? 1 : 0;
                case '<':
                    return a < b ? 1 : 0;
                case '=':
                    return a == b ? 1 : 0;
                case '>':
                    return a > b ? 1 : 0;
                case '+':
                    return a + b;
                case '-':
                    return a - b;
                case '*':
                    return a * b;
                case '/':
                    return b == 0 ? 0 : a / b;
                default:
                    return b == 0 ? 0 : a % b;
            }
        }
    }

    /**
     * Reads THE TAPE as a TEXT. It goes on only over bytes with which a TEXT goes on, so where it
     * stops is the FAULT.
     */
    private static final class Reader {
        private static final int COMPARING = 2;
        private static final int PART = 5;
        private static final int MOST_OPEN = 5;
        final Row steps = new Row(MOST_BYTES);
        private final Row bytes = new Row(MOST_BYTES);
        private String names = "";
        int at;

        boolean reads(Row tape, String namesOfUse) {
            bytes.copyFrom(tape);
            names = namesOfUse;
            steps.many = 0;
            at = 0;
            return readsLevel(0, 0) && at == bytes.many;
        }

        /** Level 0 is T, 1 A, 2 B, 3 S, 4 P, 5 Q; open is how many of ! and ( are. */
        private boolean readsLevel(int level, int open) {
            if (level >= PART) {
                return readsPart(open);
            }
            if (!readsLevel(level + 1, open)) {
                return false;
            }
            int most = level == COMPARING ? 1 : MOST_BYTES;
            for (int i = 0; i < most && levelOf(next()) == level; i++) {
                int sign = next();
                at++;
                if (!readsLevel(level + 1, open)) {
                    return false;
                }
                steps.add(Law.SIGN + sign);
            }
            return true;
        }

        private boolean readsPart(int open) {
            int sign = next();
            if (sign >= '0' && sign <= '9') {
                readNumber();
                return true;
            }
            if (sign != '!' && sign != '(') {
                return readsName(sign);
            }
            if (open >= MOST_OPEN) {
                return false;
            }
            at++;
            if (sign == '!') {
                return readsPart(open + 1) && steps.add(Law.SIGN + '!');
            }
            if (!readsLevel(0, open + 1) || next() != ')') {
                return false;
            }
            at++;
            return true;
        }

        private void readNumber() {
            int value = 0;
            for (int i = 0; i < 4 && next() >= '0' && next() <= '9'; i++) {
                value = value * 10 + next() - '0';
                at++;
            }
            steps.add(value);
        }

        private boolean readsName(int sign) {
            for (int i = 0; i < names.length(); i++) {
                if (names.charAt(i) == sign) {
                    steps.add(Law.NAME + i);
                    at++;
                    return true;
                }
            }
            return false;
        }

        /** The byte to be read next; -1 behind the last. */
        private int next() {
            return bytes.has(at) ? bytes.numbers[at] : -1;
        }

        private static int levelOf(int sign) {
            switch (sign) {
                case '|':
                    return 0;
                case '&':
                    return 1;
                case '<':
                case '=':
                case '>':
                    return COMPARING;
                case '+':
                case '-':
                    return 3;
                case '*':
                case '/':
                case '%':
                    return 4;
                default:
                    return -1;
            }
        }
    }

    /** The VOICES of one HOUSE at a time, and THE TRACE that the latest left. */
    private static final class Voice {
        private static final int GLOWS = 0;
        private static final int OPENS = 1;
        private static final int SHUTS = 2;
        private static final int TELLS = 3;
        private static final int ACTS = 4;
        private static final int MOST_DEEP = 40;
        /** The numbers of BODIES by KIND and act; 0: the KIND has none of its own. */
        private static final int[] BODIES = {
            10, 11, 12, 13,
            20, 0, 0, 0,
            0, 30, 0, 0,
            0, 0, 40, 0,
            0, 0, 0, 50,
            0, 60, 0, 0,
            0, 0, 70, 71
        };
        final Row trace = new Row(MOST_BODIES);
        private int number;
        private int kind;
        private int m;

        int speaks(int house, int km, int act, int x) {
            number = house;
            kind = km / 10;
            m = km % 10;
            trace.many = 0;
            return says(kind, act, x, 0);
        }

        /** Java works out the left side first, as THE TRACE wants it. */
        private int says(int from, int act, int x, int deep) {
            if (deep > MOST_DEEP) {
                return 0;
            }
            int d = deep + 1;
            int body = bodyOf(from, act);
            trace.add(body);
            switch (body) {
                case 10:
                    return x + number;
                case 11:
                    return says(kind, GLOWS, x, d) * 2;
                case 12:
                    return x - m;
                case 13:
                    return says(kind, OPENS, x, d) ^ says(kind, SHUTS, x, d);
                case 20:
                    return says(Kinds.HOUSE, GLOWS, x, d) * 3;
                case 30:
                    return says(Kinds.HOUSE, OPENS, x, d) - says(kind, SHUTS, 1, d);
                case 40:
                    return -says(Kinds.HOUSE, SHUTS, x, d);
                case 50:
                    return says(Kinds.RICH, TELLS, x, d) - says(kind, GLOWS, 2, d);
                case 60:
                    return says(Kinds.THIEF, OPENS, x + 1, d);
                case 70:
                    return says(Kinds.WIDOW, SHUTS, x, d) ^ number;
                case 71:
                    return says(kind, OPENS, x, d) - says(Kinds.WIDOW, TELLS, x, d);
                default:
                    return 0;
            }
        }

        private static int bodyOf(int from, int act) {
            int k = from;
            int body = 0;
            for (int i = 0; i < BODIES.length && body == 0 && k >= 0; i++) {
                int place = k * ACTS + act;
                if (place >= 0 && place < BODIES.length) {
                    body = BODIES[place];
                }
                k = Kinds.above(k);
            }
            return body;
        }
    }
}
