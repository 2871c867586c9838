import java.io.IOException;

/** Sentences of Terms 1: the edges of cells, doors, the fire, houses, and what an HOUR does with them. */
public final class TermsEdgesTest {
    private static final int T = Sentences.TERMS;
    private static Sentences due;

    public static void main(String[] args) throws IOException {
        due = new Sentences("TermsEdgesTest");
        quotients();
        ringsAndSides();
        heat();
        doors();
        doorsAsASet();
        fed();
        wants();
        hour();
        burnt();
        houses();
        kinds();
        numberM();
        manyInOneCell();
        warm();
        ofAHouse();
        least();
        leastByHour();
        most();
        contentByHour();
        takes();
        takesByHour();
        takesNoMoreThanThereIs();
        fireHeats();
        fireBurns();
        fireWants();
        fireWantsByText();
        allAtOnce();
        goesWithoutText();
        goesByText();
        goesNoMoreThanHalf();
        housesByNumbers();
        warmIsHeld();
        fourth();
        hourIsOneMore();
        due.ends();
    }

    /** Nothing goes through doors, FED is 0, and it is that HOUR. */
    private static OvenRings walled(int hour) {
        OvenRings x = HoursTest.walled();
        if (hour > 0) {
            x.hours(hour);
        }
        return x;
    }

    private static void quotients() {
        due.of(T, "Quotients are cut (toward 0).");
        OvenRings x = new OvenRings();
        due.is(x, 0, "law", 1, 2, 0, 0);
        due.is(x, 1, "law", 1, 5, 0, 0);
        Due.text(x, 0, "f/h+9");
        due.is(x, 6, "law", 0, -7, 2, 0);
        due.is(x, 6, "law", 0, 7, -2, 0);
        due.is(x, 12, "law", 0, -7, -2, 0);
    }

    private static void ringsAndSides() {
        due.of(T, "CELLS 0 .. 15: cell c is in RING c by 4 (cut; 0 to 3), at SIDE the rest of c by 4.");
        int[] rings = {0, 0, 0, 0, 1, 1, 1, 1, 2, 2, 2, 2, 3, 3, 3, 3};
        OvenRings x = new OvenRings();
        for (int cell = 0; cell < 16; cell++) {
            due.is(x, rings[cell], "ofCell", cell, 1);
        }
        due.is(x, Due.BEYOND, "ofCell", -1, 1);
        due.is(x, Due.BEYOND, "ofCell", 16, 1);
    }

    private static void heat() {
        due.of(T, "Each has HEAT (0 to 999; 0 at first).");
        OvenRings x = new OvenRings();
        for (int cell = 0; cell < 16; cell++) {
            due.is(x, 0, "ofCell", cell, 0);
            due.is(x, 0, "heat", cell, 999);
            due.is(x, Due.BEYOND, "heat", cell, 1000);
            due.is(x, 999, "heat", cell, 0);
            due.is(x, Due.BEYOND, "heat", cell, -1);
            due.is(x, 0, "ofCell", cell, 0);
        }
    }

    private static void doors() {
        due.of(T, "A DOOR (1) or a brick (0; at first a DOOR) is between cells c and c and 4 of the next RING (DOOR c, c 0 to "
            + "11).");
        due.is(new OvenRings(), 4095, "doorsNow");
        for (int door = 0; door < 12; door++) {
            OvenRings x = walled(0);
            x.heat(door, 100);
            x.door(door, 1);
            due.is(x, 1 << door, "doorsNow");
            int behind = door < 8 ? 33 : 25;
            due.is(x, 67 + behind, "hours", 1);
            due.is(x, 67, "ofCell", door, 0);
            due.is(x, behind, "ofCell", door + 4, 0);
            due.is(x, 1, "door", door, 0);
            due.is(x, 0, "doorsNow");
            due.is(x, Due.BEYOND, "door", door, 2);
            due.is(x, Due.BEYOND, "door", door, -1);
        }
        due.is(walled(0), Due.BEYOND, "door", 12, 1);
        due.is(walled(0), Due.BEYOND, "door", -1, 1);
    }

    private static void doorsAsASet() {
        due.of(5, "All that are DOORS, as a set.");
        for (int set = 0; set < 4096; set += set < 64 ? 1 : 64 + set % 31) {
            OvenRings x = new OvenRings();
            for (int door = 0; door < 12; door++) {
                x.door(door, set >> door & 1);
            }
            due.is(x, set, "doorsNow");
        }
        due.is(new OvenRings(), 4095, "doorsNow");
    }

    private static void fed() {
        due.of(T, "THE FIRE: FED (0 to 99: how much in an HOUR; 20 at first)");
        due.is(new OvenRings(), 20, "count", 2);
        int[] all = {0, 1, 98, 99};
        for (int fed : all) {
            OvenRings x = walled(0);
            due.is(x, 0, "fire", 0, fed);
            due.is(x, 4L * fed, "hours", 1);
            due.is(x, fed, "count", 2);
        }
        due.is(new OvenRings(), Due.BEYOND, "fire", 0, 100);
        due.is(new OvenRings(), Due.BEYOND, "fire", 0, -1);
    }

    private static void wants() {
        due.of(T, "WANTS (0 to 9999; 0 at first: how much more it wants than it got, told together).");
        OvenRings x = new OvenRings();
        due.is(x, 0, "count", 3);
        due.is(x, 0, "fire", 1, 9999);
        due.is(x, Due.BEYOND, "fire", 1, 10000);
        due.is(x, 9999, "fire", 1, 0);
        due.is(x, Due.BEYOND, "fire", 1, -1);
        due.is(x, 0, "count", 3);
    }

    private static void hour() {
        due.of(T, "HOUR (0 to 9999; 0 at first)");
        due.is(new OvenRings(), 0, "count", 1);
        OvenRings x = Towns.late(1);
        due.is(x, 9998, "count", 1);
        due.is(x, Due.STATE, "hours", 2);
        due.is(x, 9998, "count", 1);
        due.is("no ERROR by hours(1)", x.hours(1) >= 0 ? 1 : 0, 1);
        due.is(x, 9999, "count", 1);
        due.is(x, Due.STATE, "hours", 1);
        due.is(x, Due.STATE, "loose", 1);
        due.is(x, 9999, "count", 1);
    }

    private static void burnt() {
        due.of(T, "BURNT (0 to 99999; 0 at first).");
        OvenRings x = new OvenRings();
        due.is(x, 0, "count", 4);
        due.is(x, 0, "fire", 2, 99999);
        due.is(x, Due.BEYOND, "fire", 2, 100000);
        due.is(x, 99999, "fire", 2, 0);
        due.is(x, Due.BEYOND, "fire", 2, -1);
        due.is(x, 0, "count", 4);
    }

    private static void houses() {
        due.of(T, "HOUSES 0, 1, .. (at most 8)");
        OvenRings x = new OvenRings();
        for (int house = 0; house < 8; house++) {
            due.is(x, house, "count", 0);
            due.is(x, Due.BEYOND, "ofHouse", house, 0);
            due.is(x, house, "house", 10, 15);
            due.is(x, 1, "ofHouse", house, 0);
        }
        due.is(x, Due.FULL, "house", 10, 15);
        due.is(x, 8, "count", 0);
        due.is(x, Due.BEYOND, "ofHouse", 8, 0);
    }

    private static void kinds() {
        due.of(T, "of KINDS: 0 HOUSE; 1 RICH, 2 THIEF, 3 WIDOW under HOUSE; 4 BAKER under RICH; 5 CHURCH under THIEF; 6 LODGER "
            + "under WIDOW;");
        int[] sets = {1, 1 + 2, 1 + 4, 1 + 8, 1 + 2 + 16, 1 + 4 + 32, 1 + 8 + 64};
        for (int kind = 0; kind < 7; kind++) {
            OvenRings x = new OvenRings();
            due.is(x, 0, "house", kind * 10 + 3, 0);
            due.is(x, kind, "ofHouse", 0, 0);
            for (int as = 0; as < 7; as++) {
                due.is(x, (sets[kind] >> as & 1) == 1 ? 3 : Due.KIND, "as", 0, as);
            }
            due.is(x, Due.BEYOND, "as", 0, 7);
            due.is(x, Due.BEYOND, "as", 0, -1);
        }
        due.is(new OvenRings(), Due.BEYOND, "house", 70, 0);
        due.is(new OvenRings(), Due.BEYOND, "house", -1, 0);
    }

    private static void numberM() {
        due.of(T, "with a number m (0 to 9)");
        for (int km = 0; km < 70; km++) {
            OvenRings x = new OvenRings();
            due.is(x, 0, "house", km, 3);
            due.is(x, km / 10, "ofHouse", 0, 0);
            due.is(x, km % 10, "ofHouse", 0, 1);
            due.is(x, km % 10, "as", 0, km / 10);
            OvenRings y = Towns.withHouses(1);
            due.is(y, 0, "become", 0, km);
            due.is(y, km / 10, "ofHouse", 0, 0);
            due.is(y, km % 10, "ofHouse", 0, 1);
        }
    }

    private static void manyInOneCell() {
        due.of(T, "in a CELL (more than one may be in one)");
        for (int cell = 0; cell < 16; cell += 15) {
            OvenRings x = new OvenRings();
            due.is(x, 0, "ofCell", cell, 2);
            for (int house = 0; house < 8; house++) {
                due.is(x, house, "house", 0, cell);
                due.is(x, (2 << house) - 1, "ofCell", cell, 2);
            }
            due.is(x, cell, "change", 7, 0, 7);
            due.is(x, 127, "ofCell", cell, 2);
            due.is(x, 128, "ofCell", 7, 2);
        }
    }

    private static void warm() {
        due.of(T, "WARM (0 to 9999: for how many HOURS it was CONTENT; 0 at first).");
        OvenRings x = Towns.withHouses(1);
        due.is(x, 0, "ofHouse", 0, 3);
        due.is(x, 0, "change", 0, 1, 9999);
        due.is(x, Due.BEYOND, "change", 0, 1, 10000);
        due.is(x, 9999, "change", 0, 1, 0);
        due.is(x, Due.BEYOND, "change", 0, 1, -1);
        due.is(x, 0, "ofHouse", 0, 3);
    }

    private static void ofAHouse() {
        due.of(8, "Of a HOUSE: 0 KIND, 1 m, 2 CELL, 3 WARM, 4 LEAST now, 5 MOST, 6 TAKES now, 7 whether it would be CONTENT by "
            + "HEAT as it is.");
        OvenRings x = walled(4);
        x.house(59, 0);
        x.house(69, 15);
        x.change(1, 1, 9999);
        x.heat(15, 49);
        int[][] all = {{5, 9, 0, 0, 11, 60, 0, 0}, {6, 9, 15, 9999, 49, 150, 2, 1}};
        for (int house = 0; house < 2; house++) {
            for (int what = 0; what < 8; what++) {
                due.is(x, all[house][what], "ofHouse", house, what);
            }
            due.is(x, Due.BEYOND, "ofHouse", house, 8);
            due.is(x, Due.BEYOND, "ofHouse", house, -1);
        }
    }

    /** HOUSE 0 is CONTENT with HEAT from least to most, by HEAT as it is. */
    private static void isContentWith(OvenRings x, int least, int most) {
        due.is(x, least, "ofHouse", 0, 4);
        due.is(x, most, "ofHouse", 0, 5);
        int[] all = {0, least - 1, least, most, most + 1, 999};
        for (int v : all) {
            x.heat(x.ofHouse(0, 2), v);
            due.is("CONTENT with " + v, x.ofHouse(0, 7), v >= least && v <= most ? 1 : 0);
        }
    }

    private static void kindIs(int km, int hour, int least, int most) {
        OvenRings x = walled(hour);
        x.house(km, 6);
        isContentWith(x, least, most);
    }

    private static void least() {
        due.of(T, "LEAST (HEAT with which it is CONTENT): HOUSE: 40.");
        kindIs(0, 1, 40, 200);
        kindIs(9, 1, 40, 200);
        due.of(T, "RICH: that, and twice m.");
        kindIs(10, 1, 40, 300);
        kindIs(11, 1, 42, 300);
        kindIs(19, 1, 58, 300);
        due.of(T, "THIEF: half (cut) of that of a HOUSE.");
        kindIs(20, 1, 20, 200);
        kindIs(29, 1, 20, 200);
        due.of(T, "BAKER: 100.");
        kindIs(40, 1, 100, 300);
        kindIs(49, 1, 100, 300);
        due.of(T, "CHURCH: as THIEF, less m.");
        kindIs(50, 1, 20, 60);
        kindIs(51, 1, 19, 60);
        kindIs(59, 1, 11, 60);
    }

    private static void leastByHour() {
        int[] hours = {0, 1, 2, 3, 4, 5, 6, 23, 24, 59, 60};
        for (int hour : hours) {
            int widow = hour == 0 || hour == 3 || hour == 6 || hour == 24 || hour == 60 ? 30 : 40;
            due.of(T, "WIDOW: as HOUSE, less 10 in HOURS that 3 divides.");
            kindIs(30, hour, widow, 200);
            kindIs(39, hour, widow, 200);
            due.of(T, "LODGER: as WIDOW, and m.");
            kindIs(60, hour, widow, 150);
            kindIs(61, hour, widow + 1, 150);
            kindIs(69, hour, widow + 9, 150);
        }
    }

    private static void most() {
        due.of(T, "MOST (with which it still is): HOUSE: 200. RICH: 300. CHURCH: 60. LODGER: as WIDOW, less 50.");
        int[] most = {200, 300, 200, 200, 300, 60, 150};
        for (int kind = 0; kind < 7; kind++) {
            OvenRings x = walled(2);
            x.house(kind * 10 + 5, 15);
            x.heat(15, most[kind]);
            due.is(x, 1, "ofHouse", 0, 7);
            x.heat(15, most[kind] + 1);
            due.is(x, 0, "ofHouse", 0, 7);
        }
    }

    /** What is CONTENT in an HOUR, behind what is taken: LEAST and MOST and those beside them. */
    private static void contentByHour() {
        due.of(T, "then it is CONTENT, if HEAT of its CELL is LEAST to MOST");
        int[][] kmLeastMostTakes = {{0, 40, 200, 2}, {19, 58, 300, 6}, {20, 20, 200, 1}, {30, 30, 200, 2}, {49, 100, 300, 0},
            {59, 11, 60, 1}, {69, 39, 150, 2}};
        for (int[] k : kmLeastMostTakes) {
            int[] all = {k[1] - 1, k[1], k[1] + 1, k[2] - 1, k[2], k[2] + 1};
            for (int v : all) {
                OvenRings x = walled(0);
                x.house(k[0], 6);
                x.heat(6, v + k[3]);
                due.is("HEAT behind the HOUR of km " + k[0], x.hours(1), v);
                due.is("WARM with " + v, x.ofHouse(0, 3), v >= k[1] && v <= k[2] ? 1 : 0);
            }
        }
    }

    private static void takes() {
        due.of(T, "HOUSE: 2. RICH: three times that. THIEF: 1. BAKER: 0. CHURCH: as THIEF, and the rest of HOUR by 5. (Others as "
            + "the KIND above.)");
        int[] takes = {2, 6, 1, 2, 0, 2, 2};
        for (int kind = 0; kind < 7; kind++) {
            OvenRings x = walled(1);
            x.house(kind * 10 + 9, 4);
            x.heat(4, 999);
            due.is(x, takes[kind], "ofHouse", 0, 6);
            due.is(x, 999 - takes[kind], "hours", 1);
        }
    }

    private static void takesByHour() {
        due.of(T, "CHURCH: as THIEF, and the rest of HOUR by 5.");
        int[] takes = {1, 2, 3, 4, 5, 1, 2, 3, 4, 5, 1};
        for (int hour = 0; hour < takes.length; hour++) {
            OvenRings x = walled(hour);
            x.house(50, 4);
            x.heat(4, 999);
            due.is(x, takes[hour], "ofHouse", 0, 6);
            due.is(x, 999 - takes[hour], "hours", 1);
        }
    }

    private static void takesNoMoreThanThereIs() {
        due.of(T, "TAKES (HEAT of its CELL in an HOUR; no more than there is)");
        int[] takes = {2, 6, 1, 2, 0, 5, 2};
        for (int kind = 0; kind < 7; kind++) {
            for (int v = 0; v <= takes[kind] + 1; v++) {
                OvenRings x = walled(4);
                x.house(kind * 10, 4);
                x.heat(4, v);
                due.is(x, Math.min(v, takes[kind]), "ofHouse", 0, 6);
                due.is(x, Math.max(0, v - takes[kind]), "hours", 1);
                due.is(x, Math.max(0, v - takes[kind]), "ofCell", 4, 0);
            }
        }
        for (int v = 0; v <= 5; v++) {
            OvenRings x = walled(0);
            x.house(0, 4);
            x.house(0, 4);
            x.heat(4, v);
            due.is("two that take of " + v, x.hours(1), Math.max(0, v - 4));
        }
    }

    private static void fireHeats() {
        due.of(T, "An HOUR: (1) THE FIRE: cells 0 to 3 have FED more each (held)");
        int[][] heatFedAndThen = {{0, 0, 0}, {0, 99, 99}, {900, 98, 998}, {900, 99, 999}, {901, 99, 999}, {979, 20, 999},
            {980, 20, 999}, {999, 0, 999}, {999, 99, 999}, {998, 1, 999}, {999, 1, 999}};
        for (int[] h : heatFedAndThen) {
            for (int cell = 0; cell < 4; cell++) {
                OvenRings x = walled(0);
                x.fire(0, h[1]);
                x.heat(cell, h[0]);
                due.is(x, h[2] + 3L * h[1], "hours", 1);
                due.is(x, h[2], "ofCell", cell, 0);
            }
        }
        OvenRings x = walled(0);
        x.fire(0, 50);
        x.hours(1);
        due.is(x, 50, "ofCell", 0, 0);
        due.is(x, 50, "ofCell", 3, 0);
        due.is(x, 0, "ofCell", 4, 0);
    }

    private static void fireBurns() {
        due.of(T, "BURNT is 4 times FED more (held)");
        int[][] burntFedAndThen = {{0, 0, 0}, {0, 1, 4}, {0, 99, 396}, {99919, 20, 99999}, {99918, 20, 99998},
            {99920, 20, 99999}, {99999, 0, 99999}, {99999, 99, 99999}, {99995, 1, 99999}, {99996, 1, 99999}};
        for (int[] b : burntFedAndThen) {
            OvenRings x = walled(0);
            x.fire(0, b[1]);
            x.fire(2, b[0]);
            x.hours(1);
            due.is(x, b[2], "count", 4);
        }
    }

    private static void fireWants() {
        due.of(T, "WANTS is what the TEXT gives, less FED, more (0 at least; held).");
        int[][] wantsFedAndThen = {{0, 20, 0}, {0, 19, 1}, {0, 21, 0}, {1, 21, 0}, {2, 21, 1}, {79, 99, 0}, {78, 99, 0},
            {80, 99, 1}, {9998, 19, 9999}, {9999, 19, 9999}, {9979, 0, 9999}, {9980, 0, 9999}, {9978, 0, 9998},
            {9999, 20, 9999}, {9999, 21, 9998}, {9999, 99, 9920}};
        for (int[] w : wantsFedAndThen) {
            OvenRings x = walled(0);
            x.fire(0, w[1]);
            x.fire(1, w[0]);
            x.hours(1);
            due.is("WANTS of " + w[0] + " by FED " + w[1], x.count(3), w[2]);
        }
    }

    private static void fireWantsByText() {
        due.of(T, "USES: 0 WANTED, NAMES f FED, h the rest of HOUR by 24, w the rest of WANTS by 100; held within 0 to 99; "
            + "without a TEXT 20.");
        wantedGives("f", 0, 0, 7);
        wantedGives("f+1", 0, 0, 8);
        wantedGives("h", 0, 0, 0);
        wantedGives("h", 23, 0, 23);
        wantedGives("h", 24, 0, 0);
        wantedGives("h", 25, 0, 1);
        wantedGives("h", 47, 0, 23);
        wantedGives("h", 48, 0, 0);
        wantedGives("w", 0, 7, 7);
        wantedGives("w", 0, 99, 99);
        wantedGives("w", 0, 100, 0);
        wantedGives("w", 0, 199, 99);
        wantedGives("w", 0, 9900, 0);
        wantedGives("0-1", 0, 500, 0);
        wantedGives("0", 0, 500, 0);
        wantedGives("98", 0, 500, 98);
        wantedGives("99", 0, 500, 99);
        wantedGives("100", 0, 500, 99);
        wantedGives("9999", 0, 500, 99);
    }

    /** What an HOUR makes of WANTS by a TEXT, FED being 7. */
    private static void wantedGives(String text, int hour, int wants, int gives) {
        OvenRings x = walled(hour);
        x.fire(0, 7);
        x.fire(1, wants);
        due.is("text " + text, Due.text(x, 0, text), 1);
        x.hours(1);
        due.is("WANTS of " + wants + " by " + text + " in HOUR " + hour, x.count(3), Math.max(0, wants + gives - 7));
    }

    private static void allAtOnce() {
        due.of(T, "(2) all at once, by HEAT as it is then: through each DOOR goes from the one cell to the other what the other "
            + "TEXT gives of how much HEAT of the one of the lesser RING is more");
        OvenRings x = new OvenRings();
        x.fire(0, 0);
        x.heat(1, 999);
        x.hours(1);
        int[] first = {666, 333, 0, 0};
        for (int ring = 0; ring < 4; ring++) {
            due.is(x, first[ring], "ofCell", ring * 4 + 1, 0);
        }
        x.hours(1);
        int[] second = {555, 333, 111, 0};
        for (int ring = 0; ring < 4; ring++) {
            due.is(x, second[ring], "ofCell", ring * 4 + 1, 0);
        }
        x.hours(1);
        int[] third = {481, 333, 148, 28};
        for (int ring = 0; ring < 4; ring++) {
            due.is(x, third[ring], "ofCell", ring * 4 + 1, 0);
        }
        due.is("by HEAT that the fire has made", fedThree().ofCell(4, 0), 1);
    }

    /** Cell 0 has 3 from the fire of the same HOUR, of which 1 goes on. */
    private static OvenRings fedThree() {
        OvenRings x = new OvenRings();
        x.fire(0, 3);
        x.hours(1);
        return x;
    }

    /** What goes through DOOR 1 from the one HEAT to the other, in HOUR 0. */
    private static int goes(OvenRings x, int one, int other) {
        x.fire(0, 0);
        x.heat(1, one);
        x.heat(5, other);
        x.door(5, 0);
        x.hours(1);
        due.is("what went from " + one + " came to " + other, x.ofCell(5, 0) - other, one - x.ofCell(1, 0));
        return x.ofCell(5, 0) - other;
    }

    private static void goesWithoutText() {
        due.of(T, "without a TEXT d/3.");
        int[][] heatsAndGoes = {{0, 0, 0}, {1, 0, 0}, {2, 0, 0}, {3, 0, 1}, {5, 0, 1}, {6, 0, 2}, {999, 0, 333}, {999, 996, 1},
            {999, 997, 0}, {999, 999, 0}, {500, 501, 0}, {500, 503, 0}, {0, 999, 0}, {0, 3, 0}};
        for (int[] h : heatsAndGoes) {
            due.is("from " + h[0] + " to " + h[1], goes(new OvenRings(), h[0], h[1]), h[2]);
        }
    }

    private static void goesByText() {
        due.of(T, "1 GOES, NAMES d how much more, r the lesser RING, h the rest of HOUR by 24; held within 0 to 999");
        // 999 * 999 * 999 * 999 goes round to a number below 0
        Object[][] textHeatsAndGoes = {{"d*d", 999, 0, 499}, {"1", 2, 0, 1}, {"d-1", 3, 1, 1}, {"0", 999, 0, 0},
            {"0-1", 999, 0, 0}, {"0-d", 999, 0, 0},
            {"d*d*d*d", 999, 0, 0}, {"499", 999, 0, 499}, {"498", 999, 0, 498}, {"500", 999, 0, 499}, {"h", 999, 0, 0},
            {"r", 999, 0, 0}, {"r+1", 999, 0, 1}, {"7", 0, 0, 0}, {"7", 0, 999, 0}, {"7-d", 0, 999, 0}, {"7", 5, 5, 0}};
        for (Object[] t : textHeatsAndGoes) {
            OvenRings x = new OvenRings();
            due.is("text " + t[0], Due.text(x, 1, (String) t[0]), 1);
            due.is(t[0] + " from " + t[1] + " to " + t[2], goes(x, (Integer) t[1], (Integer) t[2]), (Integer) t[3]);
        }
        int[] hours = {0, 1, 22, 23, 24, 25, 47, 48, 60};
        for (int hour : hours) {
            OvenRings x = walled(hour);
            Due.text(x, 1, "h+r*100");
            x.image();
            for (int door = 0; door < 12; door += 4) {
                x.door(door, 1);
                x.heat(door, 900);
                x.hours(1);
                due.is("h and r by DOOR " + door + " in HOUR " + hour, 900 - x.ofCell(door, 0),
                    door / 4 * 100 + (hour < 24 ? hour : hour < 48 ? hour - 24 : hour - 48));
                x.restore();
            }
        }
    }

    private static void goesNoMoreThanHalf() {
        due.of(T, "(0, if it isn't; no more than half (cut) of that).");
        int[][] heatsAndHalf = {{0, 0, 0}, {1, 0, 0}, {2, 0, 1}, {3, 0, 1}, {4, 0, 2}, {5, 0, 2}, {998, 0, 499}, {999, 0, 499},
            {999, 998, 0}, {999, 997, 1}, {999, 996, 1}, {10, 10, 0}, {10, 11, 0}, {10, 12, 0}, {0, 999, 0}};
        for (int[] h : heatsAndHalf) {
            OvenRings x = new OvenRings();
            Due.text(x, 1, "d");
            due.is("of " + h[0] + " to " + h[1], goes(x, h[0], h[1]), h[2]);
            OvenRings y = new OvenRings();
            Due.text(y, 1, "999");
            due.is("of 999, " + h[0] + " to " + h[1], goes(y, h[0], h[1]), h[2]);
        }
    }

    private static void housesByNumbers() {
        due.of(T, "(3) each HOUSE, by numbers: it TAKES; then it is CONTENT");
        int[][] heatAndWarm = {{41, 0, 0}, {42, 1, 0}, {43, 1, 0}, {44, 1, 1}, {200, 1, 1}, {202, 1, 1}, {203, 0, 1}, {204, 0, 1},
            {205, 0, 0}};
        for (int[] h : heatAndWarm) {
            OvenRings x = walled(0);
            x.house(0, 6);
            x.house(0, 6);
            x.heat(6, h[0]);
            due.is("HEAT of " + h[0] + " behind the HOUR", x.hours(1), h[0] - 4);
            due.is("the first with " + h[0], x.ofHouse(0, 3), h[1]);
            due.is("the second with " + h[0], x.ofHouse(1, 3), h[2]);
        }
        OvenRings x = walled(0);
        x.house(0, 12);
        x.heat(12, 42);
        due.is("ahead of (4)", x.hours(1), 30);
        due.is("CONTENT ahead of (4)", x.ofHouse(0, 3), 1);
    }

    private static void warmIsHeld() {
        due.of(T, "WARM is 1 more (held).");
        int[][] warmAndThen = {{0, 1}, {9997, 9998}, {9998, 9999}, {9999, 9999}};
        for (int[] w : warmAndThen) {
            OvenRings x = walled(0);
            x.house(0, 6);
            x.heat(6, 102);
            x.change(0, 1, w[0]);
            x.hours(1);
            due.is(x, w[1], "ofHouse", 0, 3);
            x.heat(6, 0);
            x.hours(1);
            due.is(x, w[1], "ofHouse", 0, 3);
        }
    }

    private static void fourth() {
        due.of(T, "(4) HEAT of each cell of RING 3 is less by a fourth (cut) of it.");
        int[][] heatAndThen = {{0, 0}, {1, 1}, {3, 3}, {4, 3}, {5, 4}, {7, 6}, {8, 6}, {100, 75}, {103, 78}, {999, 750}};
        for (int[] h : heatAndThen) {
            for (int cell = 0; cell < 16; cell++) {
                OvenRings x = walled(0);
                x.heat(cell, h[0]);
                due.is("HEAT " + h[0] + " of " + cell, x.hours(1), cell < 12 ? h[0] : h[1]);
            }
        }
    }

    private static void hourIsOneMore() {
        due.of(T, "HOUR is 1 more.");
        OvenRings x = new OvenRings();
        x.hours(1);
        due.is(x, 1, "count", 1);
        x.loose(1);
        due.is(x, 2, "count", 1);
        x.hours(60);
        due.is(x, 62, "count", 1);
        x.loose(40);
        due.is(x, 102, "count", 1);
    }
}
