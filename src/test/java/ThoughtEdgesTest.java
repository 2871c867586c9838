import java.io.IOException;

/** Sentences of Terms 3 and promises 17 to 29: the edges of what would be. */
public final class ThoughtEdgesTest {
    private static final int T = Sentences.TERMS;
    private static Sentences due;

    public static void main(String[] args) throws IOException {
        due = new Sentences("ThoughtEdgesTest");
        onlyThought();
        onlyThoughtAtTheEnd();
        hourBeyondItsEnd();
        behind();
        hot();
        hotWhich();
        feed();
        feedOfSets();
        open();
        openTheMost();
        doorsTheFewest();
        doorsOfSeveral();
        doorsAtTheEnds();
        doorsOfAllSides();
        which();
        whichOfOneNumber();
        move();
        moveOfWhatIsCold();
        vote();
        cold();
        keeps();
        fuel();
        glad();
        odds();
        oddsByHour();
        due.ends();
    }

    private static OvenRings walled() {
        return HoursTest.walled();
    }

    private static void onlyThought() {
        due.of(T, "(All this is only thought, HOUR beyond 9999, too.)");
        thoughts(Towns::full, 20);
        thoughts(Towns::full, 1);
    }

    private static void onlyThoughtAtTheEnd() {
        due.of(T, "(All this is only thought, HOUR beyond 9999, too.)");
        thoughts(() -> Towns.late(0), 20);
        thoughts(() -> Towns.late(1), 2);
    }

    /** Each thought answers as it did in a town alike, and changes nothing. */
    private static void thoughts(Twins.Maker maker, int n) {
        Twins twins = new Twins(maker);
        long[][] args = {{3 * n, 5}, {999, 0}, {300, 1}, {3, n}, {1, n}, {1, 40, n}, {1, 0}, {1, n, 0}, {8, n}, {n, 1}, {8}, {n}, {n},
            {1, 3 * n, 0}};
        String[] names = {"then", "hot", "hot", "feedFor", "open", "doors", "which", "settle", "vote", "cold", "keeps", "fuel",
            "glad", "odds"};
        for (int i = 0; i < names.length; i++) {
            int answer = Call.of(maker.makes(), names[i], args[i]);
            due.leaves(twins, answer, names[i], args[i]);
            due.is("no STATE by " + Call.text(names[i], args[i]), answer == Due.STATE ? 1 : 0, 0);
        }
    }

    /** In HOUR 9999: a WIDOW, of whom LEAST is 30 then and 40 in the next two, and a CHURCH. */
    private static OvenRings atTheEnd() {
        OvenRings x = walled();
        for (int left = 9999; left > 0; left -= 60) {
            x.hours(Math.min(left, 60));
        }
        x.house(30, 5);
        x.house(50, 6);
        x.heat(5, 38);
        x.heat(6, 100);
        Due.text(x, 1, "h");
        x.door(0, 1);
        x.heat(0, 900);
        return x;
    }

    private static void hourBeyondItsEnd() {
        due.of(T, "(All this is only thought, HOUR beyond 9999, too.)");
        OvenRings x = atTheEnd();
        due.is(x, 9999, "count", 1);
        int[] widow = {38, 36, 34, 32, 30, 28};
        int[] church = {100, 95, 94, 92, 89, 85, 80, 79};
        for (int n = 0; n < widow.length; n++) {
            due.is(x, widow[n], "then", n, 5);
        }
        for (int n = 0; n < church.length; n++) {
            due.is(x, church[n], "then", n, 6);
        }
        int[] goes = {0, 15, 31, 48, 66, 85, 105, 126, 148, 171, 171, 172};
        for (int n = 0; n < goes.length; n++) {
            due.is(x, goes[n], "then", n, 4);
        }
        x.change(1, 0, 7);
        int[] glad = {0, 1, 1, 1, 2, 2};
        for (int n = 0; n < glad.length; n++) {
            due.is(x, glad[n], "glad", n);
        }
        due.is(x, 0, "feedFor", 1, 1);
        due.is(x, Due.NONE, "feedFor", 1, 2);
        due.is(x, 0, "feedFor", 1, 4);
        due.is(x, 0, "odds", 0, 3, 0);
        due.is(x, 1, "odds", 0, 4, 0);
        x.heat(6, 0);
        x.door(0, 0);
        due.is(x, 5, "settle", 0, 4, 0);
        due.is(x, 2, "settle", 0, 4, 1);
        due.is(x, 9999, "count", 1);
    }

    private static void behind() {
        due.of(T, "BEHIND n HOURS (0 to 60).");
        OvenRings x = walled();
        x.fire(0, 1);
        int[] all = {0, 1, 2, 59, 60};
        for (int n : all) {
            due.is(x, n, "then", n, 0);
            due.is(x, n, "then", n, 3);
            due.is(x, 0, "then", n, 4);
            due.is(x, 0, "then", n, 15);
        }
        due.is(x, Due.BEYOND, "then", 61, 0);
        due.is(x, Due.BEYOND, "then", -1, 0);
        due.is(x, 0, "ofCell", 0, 0);
    }

    private static void hot() {
        due.of(T, "HOT for v (1 to 999): behind how many HOURS (0 to 60) HEAT of any cell is v or more first; which (the least).");
        OvenRings x = walled();
        due.is(x, Due.NONE, "hot", 1, 0);
        x.fire(0, 1);
        int[] all = {1, 2, 59, 60};
        for (int v : all) {
            due.is(x, v, "hot", v, 0);
            due.is(x, 0, "hot", v, 1);
        }
        due.is(x, Due.NONE, "hot", 61, 0);
        due.is(x, Due.NONE, "hot", 61, 1);
        due.is(x, Due.BEYOND, "hot", 0, 0);
        due.is(x, Due.BEYOND, "hot", 1000, 0);
        x.heat(15, 998);
        due.is(x, 0, "hot", 998, 0);
        due.is(x, 15, "hot", 998, 1);
        due.is(x, Due.NONE, "hot", 999, 0);
        x.heat(3, 939);
        due.is(x, 60, "hot", 999, 0);
        due.is(x, 3, "hot", 999, 1);
        x.heat(3, 938);
        due.is(x, Due.NONE, "hot", 999, 0);
        x.heat(15, 999);
        due.is(x, 0, "hot", 999, 0);
        due.is(x, 15, "hot", 999, 1);
        due.is(x, 0, "hot", 1, 0);
        due.is(x, 3, "hot", 1, 1);
    }

    private static void hotWhich() {
        due.of(T, "HEAT of any cell is v or more first; which (the least).");
        for (int cell = 0; cell < 16; cell++) {
            OvenRings x = walled();
            x.heat(cell, 50);
            x.heat(15, 51);
            due.is(x, cell, "hot", 50, 1);
            due.is(x, cell, "hot", 49, 1);
            due.is(x, 15, "hot", 51, 1);
            due.is(x, Due.NONE, "hot", 52, 1);
        }
    }

    private static void feed() {
        due.of(T, "FEED for a set of HOUSES by n (1 to 30): the least FED (0 to 99) with which all of them are CONTENT in HOUR n "
            + "from now on (as (3) goes by).");
        int[][] heatAndFed = {{0, 42}, {1, 41}, {41, 1}, {42, 0}, {43, 0}, {202, 0}, {203, Due.NONE}, {999, Due.NONE}};
        for (int[] h : heatAndFed) {
            OvenRings x = walled();
            x.house(0, 0);
            x.heat(0, h[0]);
            due.is("feedFor(1, 1) with " + h[0], x.feedFor(1, 1), h[1]);
        }
        int[][] ofBaker = {{0, Due.NONE}, {1, 99}, {2, 98}, {99, 1}, {100, 0}, {300, 0}, {301, Due.NONE}};
        for (int[] h : ofBaker) {
            OvenRings x = walled();
            x.house(40, 3);
            x.heat(3, h[0]);
            due.is("feedFor(1, 1) of a BAKER with " + h[0], x.feedFor(1, 1), h[1]);
        }
        OvenRings x = walled();
        x.house(0, 0);
        int[] byHour = {0, 42, 22, 16, 12, 10};
        for (int n = 1; n < byHour.length; n++) {
            due.is(x, byHour[n], "feedFor", 1, n);
        }
        due.is(x, 4, "feedFor", 1, 29);
        due.is(x, 4, "feedFor", 1, 30);
        due.is(x, Due.BEYOND, "feedFor", 1, 31);
        due.is(x, Due.BEYOND, "feedFor", 1, 0);
        x.heat(0, 42);
        due.is(x, 0, "feedFor", 1, 1);
        due.is(x, 1, "feedFor", 1, 2);
        x.fire(0, 99);
        due.is(x, 0, "feedFor", 1, 1);
    }

    private static void feedOfSets() {
        due.of(19, "FEED. BEYOND. NONE: with none.");
        OvenRings x = walled();
        due.is(x, 0, "feedFor", 0, 1);
        due.is(x, 0, "feedFor", 0, 30);
        due.is(x, Due.BEYOND, "feedFor", 1, 1);
        x.house(0, 0);
        x.house(50, 1);
        int[][] heatAndBoth = {{17, 42}, {19, 42}, {20, Due.NONE}, {61, Due.NONE}, {0, 42}};
        for (int[] h : heatAndBoth) {
            x.heat(1, h[0]);
            due.is(x, 42, "feedFor", 1, 1);
            due.is(x, Math.max(0, 21 - h[0]), "feedFor", 2, 1);
            due.is(x, h[1], "feedFor", 3, 1);
            due.is(x, 0, "feedFor", 0, 1);
            due.is(x, Due.BEYOND, "feedFor", 4, 1);
        }
        x.heat(1, 62);
        due.is(x, Due.NONE, "feedFor", 2, 1);
        OvenRings y = new OvenRings();
        for (int house = 0; house < 8; house++) {
            y.house(20, 4 + house);
            y.heat(4 + house, 60);
        }
        due.is(y, 0, "feedFor", 255, 1);
        due.is(y, 0, "feedFor", 128, 1);
        due.is(y, Due.BEYOND, "feedFor", 256, 1);
        due.is(y, Due.BEYOND, "feedFor", -1, 1);
        y.heat(11, 0);
        y.heat(7, 0);
        y.door(3, 0);
        due.is(y, Due.NONE, "feedFor", 255, 1);
        due.is(y, Due.NONE, "feedFor", 128, 1);
        due.is(y, 0, "feedFor", 127 - 8, 1);
    }

    private static void open() {
        due.of(T, "OPEN for a HOUSE by n (0 to 20): the DOOR or brick that, changed now (the one to the other), makes WARM of it "
            + "most behind n HOURS;");
        for (int door = 0; door < 12; door++) {
            OvenRings x = walled();
            x.house(20, door + 4);
            x.heat(door, 300);
            due.is(x, door, "open", 0, 1);
            due.is(x, door, "open", 0, 20);
            due.is(x, Due.BEYOND, "open", 0, 21);
            due.is(x, -1, "open", 0, 0);
            due.is(x, Due.BEYOND, "open", 0, -1);
            x.change(0, 1, 9998);
            due.is(x, door, "open", 0, 1);
            x.change(0, 1, 9999);
            due.is(x, -1, "open", 0, 20);
            x.change(0, 1, 0);
            x.door(door, 1);
            due.is(x, -1, "open", 0, 1);
            due.is("what is -1 is no ERROR", x.told(1) + x.told(2), 2);
        }
        for (int door = 0; door < 12; door++) {
            OvenRings x = walled();
            x.house(20, door);
            x.heat(door, 22);
            x.door(door, 1);
            due.is("open: a DOOR that is shut, " + door, x.open(0, 1), door);
            x.heat(door, 31);
            due.is("open: as it is, " + door, x.open(0, 1), -1);
        }
    }

    private static void openTheMost() {
        due.of(T, "of several the least; -1, if none makes it more than it is.");
        OvenRings x = walled();
        x.house(20, 4);
        x.heat(4, 30);
        x.door(4, 1);
        x.heat(0, 36);
        // DOOR 0 makes WARM 4 at most, DOOR 4 makes it 1 more in each of ten HOURS
        int[] best = {-1, 0, 0, 0, 0, 4, 4, 4, 4, 4, 4};
        for (int n = 0; n < best.length; n++) {
            due.is(x, best[n], "open", 0, n);
        }
        due.is(x, 4, "open", 0, 20);
        x.heat(0, 0);
        due.is(x, 4, "open", 0, 1);
        x.heat(4, 0);
        due.is(x, -1, "open", 0, 20);
    }

    /** A THIEF in cell 8, from which DOOR 8 leads on; 0 and 4 are bricks. */
    private static OvenRings thief(int first, int second, int own) {
        OvenRings x = walled();
        x.house(20, 8);
        x.heat(0, first);
        x.heat(4, second);
        x.heat(8, own);
        x.door(8, 1);
        return x;
    }

    private static void doorsTheFewest() {
        due.of(T, "DOORS for a HOUSE, v (0 to 999), n (0 to 20): the fewest DOORS (2 at most) that, changed now, make HEAT of its "
            + "CELL v or more behind n HOURS;");
        OvenRings x = thief(900, 100, 100);
        // behind two HOURS: 52 as it is, 63 by 4, 98 by 8, 152 by 0 and 4
        int[][] vAndSet = {{0, 0}, {52, 0}, {53, 16}, {63, 16}, {64, 256}, {98, 256}, {99, 17}, {152, 17}, {153, Due.NONE}, {999, Due.NONE}};
        for (int[] v : vAndSet) {
            due.is(x, v[1], "doors", 0, v[0], 2);
        }
        due.is(x, 0, "doors", 0, 100, 0);
        due.is(x, Due.NONE, "doors", 0, 101, 0);
        due.is(x, Due.BEYOND, "doors", 0, 1000, 2);
        due.is(x, Due.BEYOND, "doors", 0, -1, 2);
        due.is(x, Due.BEYOND, "doors", 0, 0, 21);
        due.is(x, Due.BEYOND, "doors", 0, 0, -1);
    }

    private static void doorsOfSeveral() {
        due.of(T, "of several sets the least.");
        OvenRings x = thief(900, 300, 0);
        // behind two HOURS: 98 by 4, 131 by 4 and 8, 165 by 0 and 4, 198 by all three
        int[][] three = {{98, 16}, {99, 17}, {131, 17}, {132, 17}, {165, 17}, {166, Due.NONE}, {198, Due.NONE}};
        for (int[] v : three) {
            due.is(x, v[1], "doors", 0, v[0], 2);
        }
        x.heat(0, 300);
        int[][] two = {{98, 16}, {99, 16 + 256}, {131, 16 + 256}, {132, Due.NONE}};
        for (int[] v : two) {
            due.is(x, v[1], "doors", 0, v[0], 2);
        }
        x.heat(0, 900);
        x.door(4, 1);
        int[][] one = {{98, 0}, {99, 1}, {131, 1}, {165, 1}, {166, 1 + 256}, {198, 1 + 256}, {199, Due.NONE}};
        for (int[] v : one) {
            due.is(x, v[1], "doors", 0, v[0], 2);
        }
    }

    private static void doorsAtTheEnds() {
        due.of(T, "the fewest DOORS (2 at most) that, changed now,");
        OvenRings x = walled();
        x.house(20, 15);
        x.heat(11, 300);
        due.is(x, 1 << 11, "doors", 0, 75, 1);
        due.is(x, Due.NONE, "doors", 0, 76, 1);
        x.house(40, 4);
        x.heat(4, 999);
        due.is(x, 0, "doors", 1, 999, 0);
        due.is(x, 0, "doors", 1, 999, 20);
        x.house(40, 0);
        due.is(x, 0, "doors", 2, 0, 20);
        due.is(x, Due.NONE, "doors", 2, 1, 20);
        x.heat(7, 900);
        x.heat(11, 0);
        due.is(x, 1 << 11 | 1 << 7, "doors", 0, 75, 2);
        due.is(x, Due.NONE, "doors", 0, 76, 2);
        due.is(x, Due.NONE, "doors", 0, 1, 1);
    }

    /** The fewest by each DOOR, that lets HEAT in or keeps it, and by two of each SIDE. */
    private static void doorsOfAllSides() {
        due.of(T, "make HEAT of its CELL v or more behind n HOURS; of several sets the least.");
        for (int door = 0; door < 12; door++) {
            OvenRings x = walled();
            x.house(40, door + 4);
            x.heat(door, 300);
            int most = door < 8 ? 100 : 75;
            due.is(x, 1 << door, "doors", 0, most, 1);
            due.is(x, Due.NONE, "doors", 0, most + 1, 1);
            x.door(door, 1);
            due.is(x, 0, "doors", 0, most, 1);
            x.change(0, 0, door);
            due.is(x, 0, "doors", 0, 200, 1);
            due.is(x, 1 << door, "doors", 0, 201, 1);
            due.is(x, 1 << door, "doors", 0, 300, 1);
            due.is(x, Due.NONE, "doors", 0, 301, 1);
        }
        for (int side = 0; side < 4; side++) {
            OvenRings x = walled();
            x.house(40, 8 + side);
            x.heat(side, 900);
            due.is(x, 17 << side, "doors", 0, 100, 2);
            due.is(x, Due.NONE, "doors", 0, 101, 2);
        }
    }

    private static void fill(OvenRings x, int sheet, OvenRings from) {
        x.sheet(sheet, 16, 16);
        for (int cell = 0; cell < 16; cell++) {
            x.put(sheet, cell, from.ofCell(cell, 0));
        }
    }

    /** HEAT of each cell is unlike that of the others; half of the DOORS are bricks. */
    private static OvenRings unlike() {
        OvenRings x = new OvenRings();
        for (int cell = 0; cell < 16; cell++) {
            x.heat(cell, 990 - 17 * cell);
        }
        for (int door = 0; door < 12; door += 2) {
            x.door(door, 0);
        }
        return x;
    }

    private static void which() {
        due.of(T, "WHICH: a SHEET tells HEAT of cells 0, 1, .. to 15 behind one HOUR: which DOOR or brick, changed now (the "
            + "others as they are), makes it so: as a set; how many.");
        for (int door = 0; door < 12; door++) {
            OvenRings x = unlike();
            OvenRings changed = unlike();
            changed.door(door, door % 2 == 0 ? 1 : 0);
            changed.hours(1);
            fill(x, 3, changed);
            due.is(x, 1 << door, "which", 3, 0);
            due.is(x, 1, "which", 3, 1);
        }
        OvenRings x = unlike();
        OvenRings same = unlike();
        same.hours(1);
        fill(x, 0, same);
        due.is(x, 0, "which", 0, 0);
        due.is(x, 0, "which", 0, 1);
        due.is("none is no ERROR", x.told(2), 0);
        OvenRings y = walled();
        y.sheet(0, 8, 16);
        due.is(y, 4095, "which", 0, 0);
        due.is(y, 12, "which", 0, 1);
        y.heat(0, 100);
        y.put(0, 0, 100);
        due.is(y, 4094, "which", 0, 0);
        due.is(y, 11, "which", 0, 1);
    }

    private static void whichOfOneNumber() {
        due.of(T, "WHICH: a SHEET tells HEAT of cells 0, 1, .. to 15 behind one HOUR");
        OvenRings x = unlike();
        OvenRings changed = unlike();
        changed.door(11, 0);
        changed.hours(1);
        fill(x, 1, changed);
        for (int cell = 0; cell < 16; cell++) {
            x.put(1, cell, changed.ofCell(cell, 0) + 1);
            due.is("cell " + cell + " one more", x.which(1, 0), 0);
            x.put(1, cell, changed.ofCell(cell, 0) - 1);
            due.is("cell " + cell + " one less", x.which(1, 1), 0);
            x.put(1, cell, changed.ofCell(cell, 0));
            due.is("cell " + cell + " as it is", x.which(1, 0), 1 << 11);
        }
    }

    private static void move() {
        due.of(T, "MOVE for a HOUSE by n (0 to 30): the CELL in which it should be now so that WARM of it is most behind n HOURS; "
            + "of several the least; WARM then.");
        for (int cell = 0; cell < 16; cell++) {
            OvenRings x = walled();
            x.house(20, 7);
            x.change(0, 1, 5);
            x.heat(cell, 80);
            due.is(x, cell, "settle", 0, 1, 0);
            due.is(x, 6, "settle", 0, 1, 1);
            due.is(x, 0, "settle", 0, 0, 0);
            due.is(x, 5, "settle", 0, 0, 1);
            due.is(x, cell, "settle", 0, 30, 0);
            // in RING 3 behind it took: 79, 59, 44, 32, 23, and 17, which is too little
            due.is(x, cell < 12 ? 35 : 10, "settle", 0, 30, 1);
            x.heat(15, 80);
            due.is(x, cell, "settle", 0, 1, 0);
            due.is(x, Due.BEYOND, "settle", 0, 31, 0);
            due.is(x, Due.BEYOND, "settle", 0, -1, 0);
            x.change(0, 1, 9998);
            due.is(x, 9999, "settle", 0, 1, 1);
            due.is(x, 9999, "settle", 0, 30, 1);
            x.change(0, 1, 9999);
            due.is(x, 9999, "settle", 0, 30, 1);
            due.is(x, 0, "settle", 0, 30, 0);
            due.is(x, 7, "ofHouse", 0, 2);
        }
    }

    private static void moveOfWhatIsCold() {
        due.of(T, "of several the least; WARM then.");
        OvenRings x = walled();
        x.house(20, 7);
        int[] hours = {0, 1, 30};
        for (int n : hours) {
            due.is(x, 0, "settle", 0, n, 0);
            due.is(x, 0, "settle", 0, n, 1);
        }
        for (int cell = 15; cell >= 0; cell--) {
            x.heat(cell, 21);
            due.is(x, cell, "settle", 0, 1, 0);
            due.is(x, 1, "settle", 0, 1, 1);
            due.is(x, cell, "settle", 0, 30, 0);
            due.is(x, 1, "settle", 0, 30, 1);
        }
    }

    private static void vote() {
        due.of(T, "VOTE for a DOOR by n (0 to 20): HOUSES of which WARM would be more behind n HOURS, were it changed now, less "
            + "those of which it would be less.");
        for (int houses = 0; houses <= 8; houses++) {
            for (int door = 0; door < 12; door++) {
                OvenRings x = walled();
                x.heat(door, 300);
                for (int house = 0; house < houses; house++) {
                    x.house(20, door + 4);
                }
                due.is(x, houses, "vote", door, 1);
                due.is(x, 0, "vote", door, 0);
                x.door(door, 1);
                due.is(x, -houses, "vote", door, 1);
                due.is(x, -houses, "vote", door, 20);
                for (int house = 0; house < houses; house++) {
                    x.change(house, 1, 9999);
                }
                due.is(x, 0, "vote", door, 20);
                due.is(x, Due.BEYOND, "vote", door, 21);
                due.is(x, Due.BEYOND, "vote", door, -1);
            }
        }
        OvenRings x = walled();
        x.house(0, 0);
        x.house(20, 0);
        x.house(20, 4);
        x.house(0, 4);
        // of 61 there would be 41 and 20, of 62 42 and 20, of 63 42 and 21: HOUSE 0 needs 42, HOUSE 2 21
        int[][] heatAndVote = {{61, -1}, {62, 0}, {63, 1}};
        for (int[] h : heatAndVote) {
            x.heat(0, h[0]);
            due.is(x, h[1], "vote", 0, 1);
        }
    }

    private static void cold() {
        due.of(T, "COLD behind n HOURS: the cell of least HEAT; of several the least; HEAT.");
        for (int cell = 0; cell < 16; cell++) {
            OvenRings x = walled();
            for (int i = 0; i < 16; i++) {
                x.heat(i, 999);
            }
            due.is(x, 0, "cold", 0, 0);
            due.is(x, 999, "cold", 0, 1);
            x.heat(cell, 998);
            due.is(x, cell, "cold", 0, 0);
            due.is(x, 998, "cold", 0, 1);
            x.heat(15, 998);
            due.is(x, cell, "cold", 0, 0);
            x.heat(cell, 0);
            due.is(x, cell, "cold", 0, 0);
            due.is(x, 0, "cold", 0, 1);
            due.is(x, cell, "cold", 60, 0);
            due.is(x, 0, "cold", 60, 1);
            due.is(x, Due.BEYOND, "cold", 61, 0);
            due.is(x, Due.BEYOND, "cold", -1, 0);
        }
        OvenRings x = walled();
        x.fire(0, 1);
        for (int cell = 0; cell < 12; cell++) {
            x.heat(cell, cell < 4 ? 0 : 60);
        }
        for (int cell = 12; cell < 16; cell++) {
            x.heat(cell, 999);
        }
        // cells 0 to 3 are warmer by 1 each HOUR, RING 3 comes down to 3
        due.is(x, 0, "cold", 2, 0);
        due.is(x, 2, "cold", 2, 1);
        due.is(x, 12, "cold", 60, 0);
        due.is(x, 3, "cold", 60, 1);
    }

    private static void keeps() {
        due.of(T, "KEEPS of a cell: behind how many HOURS (0 to 60) with FED 0 from now on HEAT of it is less than half (cut) of "
            + "what it is now first.");
        int[][] heatAndHours = {{0, Due.NONE}, {1, Due.NONE}, {2, 2}, {3, 3}, {4, 3}, {5, 4}, {116, 59}, {117, 60}, {118, 60},
            {119, Due.NONE}, {120, Due.NONE}, {999, Due.NONE}};
        for (int cell = 0; cell < 12; cell++) {
            for (int[] h : heatAndHours) {
                OvenRings x = walled();
                x.fire(0, 99);
                x.house(20, cell);
                x.heat(cell, h[0]);
                due.is("keeps(" + cell + ") with " + h[0], x.keeps(cell), h[1]);
            }
        }
        int[][] ofRing3 = {{0, Due.NONE}, {1, Due.NONE}, {3, Due.NONE}, {7, Due.NONE}, {8, 4}, {9, 5}, {100, 3}, {999, 3}};
        for (int[] h : ofRing3) {
            OvenRings x = walled();
            x.heat(15, h[0]);
            due.is("keeps(15) with " + h[0], x.keeps(15), h[1]);
        }
    }

    private static void fuel() {
        due.of(T, "FUEL for n (0 to 60): BURNT that is more behind n HOURS.");
        int[] all = {0, 1, 2, 59, 60};
        for (int n : all) {
            OvenRings x = new OvenRings();
            due.is(x, 80L * n, "fuel", n);
            x.fire(0, 99);
            due.is(x, 396L * n, "fuel", n);
            x.fire(0, 0);
            due.is(x, 0, "fuel", n);
            x.fire(0, 1);
            x.fire(2, 99999 - 4 * n);
            due.is(x, 4L * n, "fuel", n);
            x.fire(2, Math.min(99999, 99999 - 4 * n + 1));
            due.is(x, Math.max(0, 4L * n - 1), "fuel", n);
            x.fire(2, 99999);
            due.is(x, 0, "fuel", n);
            due.is(x, Due.BEYOND, "fuel", 61);
            due.is(x, Due.BEYOND, "fuel", -1);
        }
    }

    private static void glad() {
        due.of(T, "GLAD by n (0 to 60): by how much WARM of all together is more.");
        due.is(new OvenRings(), 0, "glad", 60);
        for (int houses = 1; houses <= 8; houses++) {
            OvenRings x = walled();
            for (int house = 0; house < houses; house++) {
                x.house(20, 3 + house);
                x.heat(3 + house, 199);
            }
            int[] all = {0, 1, 59, 60};
            for (int n : all) {
                due.is(x, (long) n * houses, "glad", n);
            }
            x.change(0, 1, 9999);
            due.is(x, 60L * (houses - 1), "glad", 60);
            x.change(0, 1, 9940);
            due.is(x, 60L * (houses - 1) + 59, "glad", 60);
            x.change(0, 1, 9939);
            due.is(x, 60L * houses, "glad", 60);
            due.is(x, Due.BEYOND, "glad", 61);
            due.is(x, Due.BEYOND, "glad", -1);
        }
    }

    private static void isOdds(OvenRings x, int n, int above, int below) {
        due.is(x, above, "odds", 0, n, 0);
        due.is(x, below, "odds", 0, n, 1);
    }

    private static void odds() {
        due.of(T, "ODDS: that a HOUSE is CONTENT in HOUR n (1 to 60) from now on, FED being 0, 10, 20, .. 90, each just as "
            + "likely: a fraction in lowest terms (0 is 0 by 1).");
        int[][] heatAboveBelow = {{42, 1, 1}, {112, 1, 1}, {41, 9, 10}, {32, 9, 10}, {113, 9, 10}, {122, 9, 10}, {31, 4, 5},
            {22, 4, 5}, {132, 4, 5}, {12, 7, 10}, {142, 7, 10}, {2, 3, 5}, {152, 3, 5}, {1, 1, 2}, {0, 1, 2}, {162, 1, 2}, {172, 2, 5},
            {182, 3, 10}, {192, 1, 5}, {193, 1, 10}, {202, 1, 10}, {203, 0, 1}, {999, 0, 1}};
        for (int[] h : heatAboveBelow) {
            OvenRings x = walled();
            x.fire(0, 7);
            x.house(0, 2);
            x.heat(2, h[0]);
            isOdds(x, 1, h[1], h[2]);
            due.is(x, 7, "count", 2);
        }
        OvenRings x = walled();
        x.house(40, 2);
        isOdds(x, 1, 0, 1);
        x.heat(2, 9);
        isOdds(x, 1, 0, 1);
        x.heat(2, 10);
        isOdds(x, 1, 1, 10);
    }

    private static void oddsByHour() {
        due.of(T, "ODDS: that a HOUSE is CONTENT in HOUR n (1 to 60) from now on");
        OvenRings x = walled();
        x.house(0, 2);
        isOdds(x, 1, 1, 2);
        isOdds(x, 2, 7, 10);
        isOdds(x, 20, 1, 10);
        isOdds(x, 25, 1, 10);
        isOdds(x, 26, 0, 1);
        isOdds(x, 60, 0, 1);
        due.is(x, Due.BEYOND, "odds", 0, 61, 0);
        due.is(x, Due.BEYOND, "odds", 0, 0, 0);
        OvenRings y = walled();
        y.house(20, 5);
        y.heat(5, 80);
        isOdds(y, 60, 1, 1);
        y.heat(5, 79);
        isOdds(y, 59, 1, 1);
        isOdds(y, 60, 0, 1);
        y.change(0, 1, 9999);
        isOdds(y, 59, 1, 1);
    }
}
