import java.io.IOException;

/** Draws, voices, sheets, images and what is told: their edges, by Terms 3 and 4 and promises 1 and 30 to 43. */
public final class CallEdgesTest {
    private static final int T = Sentences.TERMS;
    private static final int MIN = Integer.MIN_VALUE;
    private static final int MAX = Integer.MAX_VALUE;
    private static Sentences due;

    public static void main(String[] args) throws IOException {
        due = new Sentences("CallEdgesTest");
        calls512();
        allAsAtFirst();
        looksChangeNothing();
        drawsGoRound();
        drawsOfFed();
        drawsOfDoors();
        looseIsHourByHour();
        seedIsAnyNumber();
        voicesGoRound();
        bodies();
        bodiesOfKindsAbove();
        traceIsShort();
        sheetsAreFour();
        sheetsAnew();
        lowestBits();
        moveAsTheyAllWere();
        heatsUpTo();
        heatsHowMany();
        judgeTheFirst();
        judgeHowMany();
        imageInPlaceOfOne();
        imageKeepsWhatIsEmpty();
        restoreStays();
        numbersWait();
        checkTheFirst();
        checkIsThought();
        countAtMost();
        toldHowMany();
        due.ends();
    }

    private static void calls512() {
        due.of(T, "An object is used for at most 512 calls after it has been made;");
        OvenRings x = new OvenRings();
        for (int i = 0; i < 511; i++) {
            x.told(0);
        }
        due.is(x, 511, "told", 1);
        OvenRings y = new OvenRings();
        for (int i = 1; i <= 512; i++) {
            due.is(y, i, "image");
        }
        OvenRings z = new OvenRings();
        for (int i = 0; i < 511; i++) {
            z.seed(i);
        }
        due.is(z, 510, "seed", 511);
    }

    private static void allAsAtFirst() {
        due.of(1, "All as at first; no HOUSES.");
        int[] counts = {0, 0, 20, 0, 0, 0, 0, 0, 0, 0, 1};
        for (int what = 0; what < counts.length; what++) {
            due.is(new OvenRings(), counts[what], "count", what);
        }
        due.is(new OvenRings(), 4095, "doorsNow");
        due.is(new OvenRings(), Due.BEYOND, "ofHouse", 0, 0);
        due.is(new OvenRings(), 20, "law", 0, 1, 1, 1);
        due.is(new OvenRings(), 300, "law", 1, 900, 1, 1);
        due.is(new OvenRings(), -10, "text", 0);
        due.is(new OvenRings(), 0, "check");
        due.is(new OvenRings(), Due.NONE, "trace", 0);
        due.is(new OvenRings(), Due.NONE, "restore");
        due.is(new OvenRings(), 1, "image");
        for (int i = 0; i < 16; i++) {
            due.is(new OvenRings(), 0, "ofCell", i, 0);
            due.is(new OvenRings(), 0, "ofCell", i, 2);
            due.is(new OvenRings(), Due.NONE, "heats", i % 4);
            due.is(new OvenRings(), 0, "told", 1 + i % 5);
        }
        OvenRings used = Towns.full();
        used.hours(60);
        due.is("one made behind another that is used", new OvenRings().count(1) + new OvenRings().told(1), 0);
    }

    private static void looksChangeNothing() {
        due.of(T, "Each act tells its ERRORS in the order in which they are asked");
        Twins twins = new Twins(Towns::full);
        long[][] args = {{}, {0, 0}, {5, 2}, {15, 1}, {0, 7, 8, 9}, {1, 7, 8, 9}, {6, 0}, {6, 3}, {0}, {8}, {1}, {5}};
        String[] names = {"doorsNow", "ofCell", "ofCell", "ofCell", "law", "law", "as", "as", "trace", "trace", "told", "told"};
        for (int i = 0; i < names.length; i++) {
            due.leaves(twins, Call.of(Towns.full(), names[i], args[i]), names[i], args[i]);
        }
        for (int what = 0; what <= 10; what++) {
            due.leaves(twins, Call.of(Towns.full(), "count", what), "count", what);
        }
        for (int what = 0; what < 8; what++) {
            due.leaves(twins, Call.of(Towns.full(), "ofHouse", 3, what), "ofHouse", 3, what);
        }
    }

    /** z behind one more draw, by long numbers, of which the lowest 32 bits are taken. */
    private static int next(int z) {
        return (int) ((z & 0xffffffffL) * 1103515245L + 12345L);
    }

    private static long draw(int z) {
        return (z & 0xffffffffL) / 256;
    }

    private static void drawsGoRound() {
        due.of(T, "HOURS by draws: z is told (1 at first); each makes it z * 1103515245 + 12345 (an int), and gives z >>> 8.");
        int[] seeds = {MIN, MIN + 1, -1, 0, 1, 2, 65536, MAX - 1, MAX};
        for (int seed : seeds) {
            OvenRings x = new OvenRings();
            x.seed(seed);
            int z = seed;
            for (int hour = 0; hour < 10; hour++) {
                int first = next(z);
                z = next(first);
                x.loose(1);
                due.is("FED by z " + first, x.count(2), draw(first) % 40);
                due.is("z in HOUR " + hour, x.count(10), z);
            }
        }
        OvenRings x = new OvenRings();
        x.hours(60);
        x.hot(999, 0);
        due.is(x, 1, "count", 10);
    }

    private static void drawsOfFed() {
        due.of(T, "Each: a draw: FED is its rest by 40;");
        boolean[] seen = new boolean[40];
        for (int seed = 0; seed < 400; seed++) {
            int fed = (int) (draw(next(seed)) % 40);
            seen[fed] = true;
            OvenRings x = new OvenRings();
            x.seed(seed);
            x.loose(1);
            due.is("FED by seed " + seed, x.count(2), fed);
            due.is("BURNT by seed " + seed, x.count(4), 4 * fed);
            due.is("WANTS by seed " + seed, x.count(3), Math.max(0, 20 - fed));
        }
        due.is("FED 0 and 39 were drawn", seen[0] && seen[39] ? 1 : 0, 1);
    }

    private static void drawsOfDoors() {
        due.of(T, "another draw: if 4 divides it, the DOOR that is the rest by 12 of an eighth of it (cut) is changed; then an "
            + "HOUR.");
        int changed = 0;
        int rests = 0;
        for (int seed = 0; seed < 600; seed++) {
            long drawn = draw(next(next(seed)));
            rests |= 1 << drawn % 4;
            int set = drawn % 4 == 0 ? 1 << drawn / 8 % 12 : 0;
            changed |= set;
            OvenRings x = new OvenRings();
            x.seed(seed);
            x.loose(1);
            due.is("DOORS by seed " + seed, x.doorsNow(), 4095 ^ set);
            OvenRings y = HoursTest.walled();
            y.seed(seed);
            y.loose(1);
            due.is("bricks by seed " + seed, y.doorsNow(), set);
        }
        due.is("each DOOR was changed", changed, 4095);
        due.is("each rest by 4 was drawn", rests, 15);
    }

    private static void looseIsHourByHour() {
        due.of(16, "n (1 to 40) HOURS by draws: likewise.");
        OvenRings x = Towns.full();
        OvenRings y = Towns.full();
        int z = 77;
        for (int hour = 0; hour < 40; hour++) {
            int first = next(z);
            z = next(first);
            y.fire(0, (int) (draw(first) % 40));
            if (draw(z) % 4 == 0) {
                int door = (int) (draw(z) / 8 % 12);
                y.door(door, 1 - (y.doorsNow() >> door & 1));
            }
            y.hours(1);
        }
        due.is(x, y.count(5), "loose", 40);
        for (int cell = 0; cell < 16; cell++) {
            due.is(x, y.ofCell(cell, 0), "ofCell", cell, 0);
        }
        due.is(x, y.count(6), "count", 6);
        due.is(x, y.count(3), "count", 3);
        due.is(x, z, "count", 10);
        OvenRings ones = Towns.full();
        for (int hour = 0; hour < 40; hour++) {
            ones.loose(1);
        }
        due.is(ones, x.count(5), "count", 5);
        due.is(ones, x.doorsNow(), "doorsNow");
    }

    private static void seedIsAnyNumber() {
        due.of(30, "z becomes v: what it was (any number).");
        int[] all = {MIN, -1, 0, Due.BEYOND, Due.KIND, Due.LOW, MAX};
        OvenRings x = new OvenRings();
        int was = 1;
        for (int v : all) {
            due.is(x, was, "seed", v);
            due.is(x, v, "count", 10);
            was = v;
        }
        for (int k = 1; k <= 5; k++) {
            due.is(x, 0, "told", k);
        }
    }

    /** HOUSE 7 of a KIND with m 9 (the n of its VOICES is 7). */
    private static OvenRings last(int kind) {
        OvenRings x = Towns.withHouses(8);
        x.become(7, kind * 10 + 9);
        return x;
    }

    private static void voicesGoRound() {
        due.of(T, "VOICES of a HOUSE, with a number x (ints that go round);");
        due.is(last(0), MIN, "voice", 7, 0, MAX - 6);
        due.is(last(0), MIN + 6, "voice", 7, 0, MAX);
        due.is(last(0), MIN + 7, "voice", 7, 0, MIN);
        due.is(last(0), 0, "voice", 7, 0, -7);
        due.is(last(0), MIN, "voice", 7, 1, (1 << 30) - 7);
        due.is(last(0), 12, "voice", 7, 1, MAX);
        due.is(last(0), MAX, "voice", 7, 2, MIN + 8);
        due.is(last(0), MAX - 8, "voice", 7, 2, MIN);
        due.is(last(1), MIN, "voice", 7, 0, MIN - 7);
        due.is(last(1), MAX - 2, "voice", 7, 0, MAX - 7);
        due.is(last(3), MIN, "voice", 7, 2, MIN + 9);
        due.is(last(3), MIN + 1, "voice", 7, 2, MIN + 8);
        due.is(last(5), 22, "voice", 7, 1, MAX);
        due.is(last(5), 20, "voice", 7, 1, MAX - 1);
        due.is(last(6), MIN ^ 7, "voice", 7, 2, MIN + 9);
        // opens is 0, as MIN * 2 goes round to it; shuts is MAX - 15; glows(2) is 27
        due.is(last(4), MAX - 15 - 27, "voice", 7, 3, MAX - 6);
        due.is(Towns.withHouses(1), Due.BEYOND, "voice", 0, 0, Due.BEYOND);
        due.is("what is as an ERROR is none", last(0).told(1), 0);
    }

    /** What the VOICES of HOUSE 7 with m 9 make of -3, by KIND and act. */
    private static void bodies() {
        due.of(T, "n is the number, m as told: 0 glows, 1 opens, 2 shuts, 3 tells. BODIES: HOUSE: 10 glows: x + n. 11 opens: glows(x) * 2. "
            + "12 shuts: x - m. 13 tells: opens(x) ^ shuts(x). RICH: 20 glows: super.glows(x) * 3. "
            + "THIEF: 30 opens: super.opens(x) - shuts(1). WIDOW: 40 shuts: -super.shuts(x). "
            + "BAKER: 50 tells: super.tells(x) - glows(2). CHURCH: 60 opens: super.opens(x + 1). "
            + "LODGER: 70 shuts: super.shuts(x) ^ n. 71 tells: opens(x) - super.tells(x).");
        int[][] answers = {{4, 8, -12, 8 ^ -12}, {12, 24, -12, 24 ^ -12}, {4, 16, -12, 16 ^ -12}, {4, 8, 12, 8 ^ 12},
            {12, 24, -12, (24 ^ -12) - 27}, {4, 18, -12, 18 ^ -12}, {4, 8, 12 ^ 7, 8 - (8 ^ (12 ^ 7))}};
        for (int kind = 0; kind < 7; kind++) {
            for (int act = 0; act < 4; act++) {
                due.is(last(kind), answers[kind][act], "voice", 7, act, -3);
            }
            due.is(last(kind), Due.BEYOND, "voice", 7, 4, -3);
            due.is(last(kind), Due.BEYOND, "voice", 7, -1, -3);
        }
    }

    private static void bodiesOfKindsAbove() {
        due.of(T, "glows(..) is the BODY of its KIND, or of the next KIND above that has one; super.glows(..) that from the KIND "
            + "above the BODY's on.");
        int[][][] began = {
            {{10}, {11, 10}, {12}, {13, 11, 10, 12}},
            {{20, 10}, {11, 20, 10}, {12}, {13, 11, 20, 10, 12}},
            {{10}, {30, 11, 10, 12}, {12}, {13, 30, 11, 10, 12, 12}},
            {{10}, {11, 10}, {40, 12}, {13, 11, 10, 40, 12}},
            {{20, 10}, {11, 20, 10}, {12}, {50, 13, 11, 20, 10, 12, 20, 10}},
            {{10}, {60, 30, 11, 10, 12}, {12}, {13, 60, 30, 11, 10, 12, 12}},
            {{10}, {11, 10}, {70, 40, 12}, {71, 11, 10, 13, 11, 10, 70, 40, 12}}};
        for (int kind = 0; kind < 7; kind++) {
            for (int act = 0; act < 4; act++) {
                OvenRings x = last(kind);
                x.voice(7, act, 0);
                due.is(x, began[kind][act].length, "count", 9);
                for (int i = 0; i < began[kind][act].length; i++) {
                    due.is(x, began[kind][act][i], "trace", i);
                }
                due.is(x, Due.NONE, "trace", began[kind][act].length);
            }
        }
    }

    private static void traceIsShort() {
        due.of(T, "THE TRACE: the numbers of BODIES of the latest voice(), as they began (what stands left is worked out first), "
            + "the first 40.");
        int[][] howMany = {{1, 2, 1, 4}, {2, 3, 1, 5}, {1, 4, 1, 6}, {1, 2, 2, 5}, {2, 3, 1, 8}, {1, 5, 1, 7}, {1, 2, 3, 9}};
        for (int kind = 0; kind < 7; kind++) {
            for (int act = 0; act < 4; act++) {
                OvenRings x = last(kind);
                x.voice(0, 3, 1);
                x.voice(7, act, MAX);
                int n = howMany[kind][act];
                due.is(x, n, "count", 9);
                due.is("the last of " + n, x.trace(n - 1) > Due.LOW ? 1 : 0, 1);
                due.is(x, Due.NONE, "trace", n);
                due.is(x, Due.BEYOND, "voice", 8, act, 1);
                due.is(x, Due.BEYOND, "voice", 7, 4, 1);
                due.is(x, n, "count", 9);
            }
        }
    }

    private static void sheetsAreFour() {
        due.of(T, "SHEETS 0 .. 3 are rows of 8, 16, 32 bits, at most 40 numbers, or missing (as at first).");
        int[] lengths = {0, 1, 2, 15, 16, 17, 39, 40};
        for (int sheet = 0; sheet < 4; sheet++) {
            for (int bits = 8; bits <= 32; bits *= 2) {
                for (int n : lengths) {
                    OvenRings x = new OvenRings();
                    due.is(x, Due.NONE, "put", sheet, 0, 1);
                    due.is(x, 1, "sheet", sheet, bits, n);
                    due.is(x, n > 0 ? 1 : Due.BEYOND, "put", sheet, n - 1L, 1);
                    due.is(x, Due.BEYOND, "put", sheet, n, 1);
                    due.is(x, Due.BEYOND, "put", sheet, -1, 1);
                    due.is(x, n, "move", sheet, 0, sheet, 0, n);
                    due.is(x, Due.BEYOND, "sheet", sheet, bits, 41);
                    due.is(x, Due.STATE, "sheet", sheet, bits, -1);
                    due.is(x, n, "move", sheet, 0, sheet, 0, n);
                    due.is(x, Due.NONE, "put", (sheet + 1) % 4, 0, 1);
                }
            }
        }
        due.is(new OvenRings(), Due.BEYOND, "sheet", 4, 8, 1);
        due.is(new OvenRings(), Due.BEYOND, "sheet", -1, 8, 1);
    }

    private static void sheetsAnew() {
        due.of(33, "A SHEET has n numbers, all 0, of so many bits (8, 16, 32; 0: it is missing, n doesn't matter): 1.");
        int[] any = {MIN, -1, 0, 40, 41, MAX};
        for (int n : any) {
            OvenRings x = new OvenRings();
            x.sheet(2, 8, 16);
            for (int i = 0; i < 16; i++) {
                x.put(2, i, 100 + i);
            }
            due.is(x, 16, "heats", 2);
            due.is(x, 1, "sheet", 2, 0, n);
            due.is(x, Due.NONE, "heats", 2);
            due.is(x, 1, "sheet", 2, 0, n);
            due.is(x, 1, "sheet", 2, 16, 16);
            due.is(x, 16, "heats", 2);
            due.is(x, 0, "count", 5);
            x.put(2, 15, 9);
            due.is(x, 1, "sheet", 2, 16, 16);
            due.is(x, 16, "heats", 2);
            due.is(x, 0, "count", 5);
        }
    }

    /** What a number of so many bits is in a cell; -1, if it is none that may be there. */
    private static int inCell(int bits, int v) {
        OvenRings x = new OvenRings();
        x.sheet(1, bits, 2);
        x.put(1, 1, v);
        return x.heats(1) == 2 ? x.ofCell(1, 0) : -1;
    }

    private static void lowestBits() {
        due.of(34, "Number i of a SHEET becomes v (its lowest bits): 1.");
        int[][] of8 = {{0, 0}, {127, 127}, {128, -1}, {255, -1}, {256, 0}, {256 + 127, 127}, {256 + 128, -1}, {-1, -1}, {-128, -1},
            {-129, 127}, {-256, 0}, {MIN, 0}, {MAX, -1}, {MIN + 5, 5}, {65536, 0}, {999, -1}, {1000, -1}};
        for (int[] o : of8) {
            due.is("8 bits of " + o[0], inCell(8, o[0]), o[1]);
        }
        int[][] of16 = {{0, 0}, {999, 999}, {1000, -1}, {32767, -1}, {32768, -1}, {65535, -1}, {65536, 0}, {65536 + 999, 999},
            {65536 + 1000, -1}, {-1, -1}, {-65536, 0}, {-65536 + 256, 256}, {MIN, 0}, {MAX, -1}, {MIN + 700, 700}, {256, 256}};
        for (int[] o : of16) {
            due.is("16 bits of " + o[0], inCell(16, o[0]), o[1]);
        }
        int[][] of32 = {{0, 0}, {999, 999}, {1000, -1}, {65536, -1}, {65536 + 5, -1}, {-1, -1}, {MIN, -1}, {MAX, -1}, {256, 256}};
        for (int[] o : of32) {
            due.is("32 bits of " + o[0], inCell(32, o[0]), o[1]);
        }
    }

    private static OvenRings numbered(int bits) {
        OvenRings x = new OvenRings();
        x.sheet(0, bits, 40);
        x.sheet(3, bits, 40);
        for (int i = 0; i < 40; i++) {
            x.put(0, i, i + 1);
        }
        return x;
    }

    /** Number i of a SHEET, which is moved to the first place for that. */
    private static int number(OvenRings x, int sheet, int i) {
        x.sheet(2, 32, 1);
        x.sheet(1, 16, 1);
        x.move(sheet, i, 1, 0, 1);
        x.heats(1);
        return x.ofCell(0, 0);
    }

    private static void moveAsTheyAllWere() {
        due.of(35, "n numbers of a SHEET, from number i on, come to another one (or the same), from its number j on, as they all "
            + "were: n.");
        int[][] runs = {{0, 0, 40}, {0, 1, 39}, {1, 0, 39}, {0, 39, 1}, {39, 0, 1}, {5, 5, 35}, {0, 20, 20}, {20, 0, 20}, {3, 7, 10},
            {7, 3, 10}, {40, 40, 0}, {0, 0, 0}};
        for (int[] r : runs) {
            for (int other = 0; other <= 3; other += 3) {
                OvenRings x = numbered(16);
                due.is(x, r[2], "move", 0, r[0], other, r[1], r[2]);
                for (int i = 0; i < 40; i++) {
                    int own = other == 0 ? i + 1 : 0;
                    boolean came = i >= r[1] && i < r[1] + r[2];
                    due.is("number " + i, number(x, other, i), came ? i - r[1] + r[0] + 1 : own);
                    due.is("HEAT", x.count(5), came ? i - r[1] + r[0] + 1 : own);
                }
            }
        }
        for (int bits = 8; bits <= 32; bits *= 4) {
            OvenRings x = numbered(bits);
            due.is(x, 16, "move", 0, 24, 3, 0, 16);
            due.is(x, 16, "heats", 3);
            due.is(x, 25, "ofCell", 0, 0);
            due.is(x, 40, "ofCell", 15, 0);
        }
    }

    private static void heatsUpTo() {
        due.of(36, "how many, up to the first that is not 0 to 999 (no ERROR then), or for which there is no cell.");
        int[] none = {-1, 1000, MIN, MAX};
        for (int v : none) {
            for (int at = 0; at < 18; at++) {
                OvenRings x = new OvenRings();
                x.sheet(0, 32, 20);
                for (int i = 0; i < 20; i++) {
                    x.put(0, i, i % 2 == 0 ? 999 : 0);
                }
                x.put(0, at, v);
                for (int cell = 0; cell < 16; cell++) {
                    x.heat(cell, 500);
                }
                due.is(x, Math.min(at, 16), "heats", 0);
                for (int cell = 0; cell < 16; cell++) {
                    due.is(x, cell >= at ? 500 : cell % 2 == 0 ? 999 : 0, "ofCell", cell, 0);
                }
                due.is("no ERROR", x.told(1) + x.told(2), 0);
            }
        }
    }

    private static void heatsHowMany() {
        due.of(36, "Numbers of a SHEET become HEAT of cells 0, 1, ..");
        int[] lengths = {0, 1, 15, 16, 17, 40};
        for (int n : lengths) {
            OvenRings x = new OvenRings();
            for (int cell = 0; cell < 16; cell++) {
                x.heat(cell, 7);
            }
            x.sheet(0, 8, n);
            due.is(x, Math.min(n, 16), "heats", 0);
            due.is(x, 7L * Math.max(0, 16 - n), "count", 5);
        }
    }

    /** HOUSES in cells 0, 15, 14, .. and a SHEET that tells so. */
    private static OvenRings judged(int houses, int numbers) {
        OvenRings x = new OvenRings();
        x.sheet(1, 8, numbers);
        for (int house = 0; house < houses; house++) {
            x.house(0, house == 0 ? 0 : 16 - house);
        }
        for (int i = 0; i < numbers; i++) {
            x.put(1, i, i == 0 ? 0 : 16 - i);
        }
        return x;
    }

    private static void judgeTheFirst() {
        due.of(37, "Numbers of a SHEET are in which CELLS HOUSES 0, 1, .. are: the first that isn't so");
        for (int houses = 1; houses <= 8; houses++) {
            due.is(judged(houses, houses), -1, "judge", 1);
            for (int at = 0; at < houses; at++) {
                int[] wrong = {-1, 16, 7, 127};
                for (int v : wrong) {
                    OvenRings x = judged(houses, houses);
                    x.put(1, at, v);
                    due.is(x, at, "judge", 1);
                    x.put(1, houses - 1, 3);
                    due.is(x, at, "judge", 1);
                }
                OvenRings x = judged(houses, houses);
                x.change(at, 0, 5);
                due.is(x, at, "judge", 1);
                due.is("no ERROR", x.told(1) + x.told(2), 0);
            }
        }
    }

    private static void judgeHowMany() {
        due.of(37, "(one that lacks, or is too many, too); -1: all are.");
        for (int houses = 0; houses <= 8; houses++) {
            for (int numbers = 0; numbers <= 10; numbers++) {
                due.is(judged(houses, numbers), houses == numbers ? -1 : Math.min(houses, numbers), "judge", 1);
            }
            due.is(judged(houses, 40), houses, "judge", 1);
        }
    }

    private static void imageInPlaceOfOne() {
        due.of(38, "is kept as an IMAGE, in place of one ahead: how often that was done.");
        OvenRings x = new OvenRings();
        for (int i = 1; i <= 20; i++) {
            x.heat(4, i);
            due.is(x, i, "image");
            x.heat(4, 900);
            due.is(x, 0, "restore");
            due.is(x, i, "ofCell", 4, 0);
        }
        x.hours(3);
        due.is(x, 0, "restore");
        due.is(x, 21, "image");
    }

    /** What is kept empty is empty again, and what is kept full is full. */
    private static void imageKeepsWhatIsEmpty() {
        due.of(38, "All (but SHEETS, THE TRACE, what told() tells, and how often this was done)");
        OvenRings x = new OvenRings();
        x.image();
        fillAll(x);
        due.is(x, 0, "restore");
        int[] counts = {0, 0, 20, 0, 0, 0, 0, 0, 0, 4, 1};
        for (int what = 0; what < counts.length; what++) {
            due.is(x, counts[what], "count", what);
        }
        due.is(x, Due.BEYOND, "ofHouse", 0, 0);
        due.is(x, 4095, "doorsNow");
        due.is(x, 20, "law", 0, 1, 1, 1);
        due.is(x, 3, "law", 1, 10, 1, 1);
        due.is(x, 1, "put", 3, 39, 1);
        OvenRings y = new OvenRings();
        fillAll(y);
        y.image();
        y.check();
        y.text(0);
        Due.text(y, 0, "1");
        Due.text(y, 1, "1");
        y.become(7, 0);
        y.change(7, 0, 0);
        y.change(7, 1, 0);
        due.is(y, 60, "restore");
        due.is(y, Due.FULL, "tell", 0);
        due.is(y, Due.FULL, "feed", 0, 1);
        due.is(y, Due.FULL, "house", 0, 0);
        due.is(y, 6, "ofHouse", 7, 0);
        due.is(y, 9, "ofHouse", 7, 1);
        due.is(y, 15, "ofHouse", 7, 2);
        due.is(y, 9999, "ofHouse", 7, 3);
        due.is(y, 77, "law", 0, 1, 1, 1);
        due.is(y, 777, "law", 1, 1, 1, 1);
        due.is(y, 0, "doorsNow");
        due.is(y, MIN, "count", 10);
    }

    private static void fillAll(OvenRings x) {
        x.hours(60);
        for (int house = 0; house < 8; house++) {
            x.house(69, 15);
            x.change(house, 1, 9999);
        }
        Due.text(x, 0, "77");
        Due.text(x, 1, "777");
        Due.tape(x, "1".repeat(50));
        for (int i = 0; i < 20; i++) {
            x.tell(1);
        }
        for (int door = 0; door < 12; door++) {
            x.door(door, 0);
        }
        for (int cell = 0; cell < 16; cell++) {
            x.heat(cell, 999);
        }
        x.seed(MIN);
        x.sheet(3, 8, 40);
        x.voice(0, 2, 1);
        x.voice(0, 2, 1);
        x.become(0, 0);
        x.voice(0, 3, 1);
    }

    private static void restoreStays() {
        due.of(39, "All is as the IMAGE has it, which stays: HOUR.");
        OvenRings x = Towns.late(0);
        x.image();
        for (int i = 0; i < 3; i++) {
            due.is(x, 9999, "restore");
            x.heat(5, i);
            x.house(0, 0);
            due.is(x, 3, "count", 0);
        }
        due.is(x, 9999, "restore");
        due.is(x, 2, "count", 0);
        due.is(x, Due.BEYOND, "ofHouse", 2, 0);
        OvenRings y = new OvenRings();
        y.image();
        y.hours(9);
        due.is(y, 0, "restore");
        due.is(y, 0, "count", 1);
        due.is(y, 80, "hours", 1);
        due.is(y, 0, "restore");
        due.is(y, 80, "hours", 1);
    }

    private static void numbersWait() {
        due.of(40, "One more number waits: how many. FULL: 20 wait.");
        OvenRings x = new OvenRings();
        for (int round = 0; round < 3; round++) {
            for (int i = 1; i <= 20; i++) {
                due.is(x, i, "tell", i % 2 == 0 ? MIN : MAX);
                due.is(x, i, "count", 8);
            }
            due.is(x, Due.FULL, "tell", 1);
            due.is(x, 20, "count", 8);
            due.is(x, 1, "check");
            due.is(x, 0, "count", 8);
        }
        due.is(x, 3, "told", 4);
    }

    private static void checkTheFirst() {
        due.of(41, "The numbers that wait (none do then) are HEAT of all cells behind 1, 2, .. HOURS: 0; else 1 and the place "
            + "(from 0) of the first that isn't so.");
        due.is(new OvenRings(), 0, "check");
        for (int n = 1; n <= 20; n++) {
            for (int wrong = 0; wrong <= n; wrong++) {
                OvenRings x = new OvenRings();
                OvenRings ahead = new OvenRings();
                for (int i = 0; i < n; i++) {
                    int all = ahead.hours(1);
                    x.tell(i == wrong ? all + 1 : i == wrong + 2 ? all - 1 : all);
                }
                due.is(x, wrong < n ? wrong + 1 : 0, "check");
                due.is(x, 0, "count", 8);
                due.is(x, 0, "check");
            }
        }
        OvenRings x = new OvenRings();
        x.heat(12, 100);
        x.fire(0, 0);
        x.tell(100);
        due.is(x, 1, "check");
        x.tell(75);
        due.is(x, 0, "check");
    }

    private static void checkIsThought() {
        due.of(41, "HEAT of all cells behind 1, 2, .. HOURS");
        OvenRings x = HoursTest.walled();
        for (int left = 9999; left > 0; left -= 60) {
            x.hours(Math.min(left, 60));
        }
        x.house(50, 6);
        x.heat(6, 100);
        int[] church = {95, 94, 92, 89, 85};
        for (int all : church) {
            x.tell(all);
        }
        due.is(x, 0, "check");
        due.is(x, 9999, "count", 1);
        due.is(x, 100, "count", 5);
        due.is(x, 0, "told", 3);
    }

    private static void countAtMost() {
        due.of(42, "0 HOUSES, 1 HOUR, 2 FED, 3 WANTS, 4 BURNT, 5 HEAT of all cells, 6 WARM of all together, 7 bytes of THE TAPE, "
            + "8 numbers that wait, 9 BODIES in THE TRACE, 10 z (any number). BEYOND.");
        OvenRings x = new OvenRings();
        fillAll(x);
        x.fire(0, 99);
        x.fire(1, 9999);
        x.fire(2, 99999);
        int[] counts = {8, 60, 99, 9999, 99999, 16 * 999, 8 * 9999, 50, 20, 4, MIN};
        for (int what = 0; what < counts.length; what++) {
            due.is(x, counts[what], "count", what);
        }
        due.is(x, Due.BEYOND, "count", 11);
        due.is(x, Due.BEYOND, "count", -1);
        x.seed(Due.KIND);
        due.is(x, Due.KIND, "count", 10);
        due.is("what is as an ERROR is none", x.told(5), 0);
    }

    private static void toldHowMany() {
        due.of(43, "How many acts have answered an ERROR LOW - k (k 1 .. 5); BEYOND: another k (counted, too).");
        OvenRings x = Towns.withHouses(8);
        for (int i = 1; i <= 20; i++) {
            x.ofCell(16, 0);
            x.restore();
            x.sheet(0, 8, -1);
            x.house(0, 0);
            x.as(0, 6);
            for (int k = 1; k <= 5; k++) {
                due.is(x, i, "told", k);
            }
        }
        due.is(x, Due.BEYOND, "told", 6);
        due.is(x, 21, "told", 1);
        due.is(x, Due.BEYOND, "told", 0);
        due.is(x, 22, "told", 1);
        due.is(x, 20, "told", 2);
    }
}
