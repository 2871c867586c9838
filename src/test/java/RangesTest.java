import java.io.IOException;

/**
 * What is BEYOND, promise by promise: of each number that a call takes, the least and the most that
 * may be are no ERROR, and those beside them are refused, so that nothing is changed.
 */
public final class RangesTest {
    private static final int MIN = Integer.MIN_VALUE;
    private static final int MAX = Integer.MAX_VALUE;
    private static final Twins full = new Twins(Towns::full);
    private static Sentences due;

    public static void main(String[] args) throws IOException {
        due = new Sentences("RangesTest");
        cellsAndFire();
        houses();
        housesByHowMany();
        texts();
        hours();
        wouldBe();
        wouldBeOfSets();
        drawsAndVoices();
        sheets();
        tells();
        due.ends();
    }

    /** The place-th number of the call may be least to most, the others being as they are told. */
    private static void range(int place, int least, int most, String name, long... a) {
        long[] within = {least, least + 1L, most - 1L, most};
        for (long v : within) {
            if (v >= least && v <= most) {
                long[] given = a.clone();
                given[place] = v;
                OvenRings x = Towns.full();
                int before = x.told(1);
                Call.of(x, name, given);
                due.is("no BEYOND by " + Call.text(name, given), x.told(1), before);
            }
        }
        long[] beyond = {least - 1L, most + 1L, least - 256L, most + 256L, most + 65536L, MIN, MAX};
        for (long v : beyond) {
            long[] given = a.clone();
            given[place] = v;
            due.refused(full, Due.BEYOND, name, given);
        }
    }

    private static void cellsAndFire() {
        due.of(2, "HEAT of a cell becomes v: what it was. BEYOND.");
        range(0, 0, 15, "heat", 0, 500);
        range(1, 0, 999, "heat", 5, 0);
        due.of(3, "Of a cell: what 0 HEAT, 1 RING, 2 HOUSES in it, as a set. BEYOND.");
        range(0, 0, 15, "ofCell", 0, 0);
        range(0, 0, 15, "ofCell", 0, 1);
        range(0, 0, 15, "ofCell", 0, 2);
        range(1, 0, 2, "ofCell", 7, 0);
        due.of(4, "A DOOR becomes a DOOR (1) or a brick (0): what it was. BEYOND.");
        range(0, 0, 11, "door", 0, 0);
        range(0, 0, 11, "door", 0, 1);
        range(1, 0, 1, "door", 5, 0);
        due.of(6, "FED (what 0), WANTS (1), BURNT (2) becomes v: what it was. BEYOND.");
        range(0, 0, 2, "fire", 0, 50);
        range(1, 0, 99, "fire", 0, 0);
        range(1, 0, 9999, "fire", 1, 0);
        range(1, 0, 99999, "fire", 2, 0);
    }

    private static void houses() {
        due.of(7, "A HOUSE (km: 10 times the KIND, and m) in a CELL: its number. BEYOND. FULL.");
        range(0, 0, 69, "house", 0, 5);
        range(1, 0, 15, "house", 33, 0);
        due.of(8, "7 whether it would be CONTENT by HEAT as it is. BEYOND.");
        range(0, 0, 6, "ofHouse", 0, 3);
        range(1, 0, 7, "ofHouse", 2, 0);
        due.of(9, "CELL (what 0), WARM (1) of a HOUSE becomes v: what it was. BEYOND.");
        range(0, 0, 6, "change", 0, 0, 9);
        range(0, 0, 6, "change", 0, 1, 9);
        range(1, 0, 1, "change", 3, 0, 9);
        range(2, 0, 15, "change", 3, 0, 0);
        range(2, 0, 9999, "change", 3, 1, 0);
        due.of(10, "A HOUSE becomes one of a KIND, with m (km): the KIND that it was. BEYOND.");
        range(0, 0, 6, "become", 0, 55);
        range(1, 0, 69, "become", 4, 0);
        due.of(11, "A HOUSE as one of a KIND: m. BEYOND.");
        range(0, 0, 6, "as", 0, 0);
        range(1, 0, 6, "as", 6, 0);
    }

    /** With no HOUSES, every number of a HOUSE is BEYOND; with 8, 7 is the last one. */
    private static void housesByHowMany() {
        long[][] rest = {{0}, {0, 5}, {5}, {0}, {5}, {50, 5}, {5, 0}, {5, 0}, {0, 5}};
        String[] names = {"ofHouse", "change", "become", "as", "open", "doors", "settle", "odds", "voice"};
        int[] promises = {8, 9, 10, 11, 20, 21, 23, 29, 31};
        String[] sentences = {"by HEAT as it is. BEYOND.", "becomes v: what it was. BEYOND.", "the KIND that it was. BEYOND.",
            "m. BEYOND.", "OPEN (-1). BEYOND.", "the set. BEYOND.", "1 WARM. BEYOND.", "below the line. BEYOND.",
            "any number. BEYOND."};
        for (int i = 0; i < names.length; i++) {
            due.of(promises[i], sentences[i]);
            for (int n = 0; n <= 8; n++) {
                int many = n;
                long[] a = new long[rest[i].length + 1];
                System.arraycopy(rest[i], 0, a, 1, rest[i].length);
                a[0] = n;
                due.refused(new Twins(() -> Towns.withHouses(many)), Due.BEYOND, names[i], a);
                a[0] = n - 1L;
                if (n == 0) {
                    due.refused(new Twins(OvenRings::new), Due.BEYOND, names[i], a);
                } else {
                    OvenRings x = Towns.withHouses(n);
                    Call.of(x, names[i], a);
                    due.is("no BEYOND with " + n + " by " + Call.text(names[i], a), x.told(1), 0);
                }
            }
        }
    }

    private static void texts() {
        due.of(12, "The n lowest bytes (1 .. 8) of a word");
        range(1, 1, 8, "feed", 0x3131313131313131L, 0);
        range(1, 1, 8, "feed", -1L, 0);
        due.of(13, "BEYOND (THE TAPE stays).");
        range(0, 0, 1, "text", 0);
        due.of(14, "What a USE gives with its NAMES in order as a, b, c. BEYOND.");
        range(0, 0, 1, "law", 0, 7, 8, 9);
        anyNumber("law", 1, 0, 7, 8, 9);
        anyNumber("law", 2, 1, 7, 8, 9);
        anyNumber("law", 3, 0, 7, 8, 9);
    }

    /** No number is BEYOND at that place. */
    private static void anyNumber(String name, int place, long... a) {
        long[] all = {MIN, MIN + 1L, -1, 0, 1, 1000, MAX - 1L, MAX, Due.BEYOND, Due.LOW};
        for (long v : all) {
            long[] given = a.clone();
            given[place] = v;
            OvenRings x = Towns.full();
            int before = x.told(1);
            Call.of(x, name, given);
            due.is("no BEYOND by " + Call.text(name, given), x.told(1), before);
        }
    }

    private static void hours() {
        due.of(15, "n (1 to 60) HOURS: HEAT of all cells. BEYOND.");
        range(0, 1, 60, "hours", 0);
        due.of(16, "n (1 to 40) HOURS by draws: likewise. BEYOND.");
        range(0, 1, 40, "loose", 0);
    }

    private static void wouldBe() {
        due.of(17, "BEHIND n HOURS: HEAT of a cell. BEYOND.");
        range(0, 0, 60, "then", 0, 4);
        range(1, 0, 15, "then", 3, 0);
        due.of(18, "HOT: what 0 behind how many HOURS, 1 which. BEYOND.");
        range(0, 1, 999, "hot", 0, 0);
        range(0, 1, 999, "hot", 0, 1);
        range(1, 0, 1, "hot", 50, 0);
        due.of(20, "OPEN (-1). BEYOND.");
        range(0, 0, 6, "open", 0, 3);
        range(1, 0, 20, "open", 2, 0);
        due.of(21, "DOORS: the set. BEYOND.");
        range(0, 0, 6, "doors", 0, 5, 3);
        range(1, 0, 999, "doors", 2, 0, 3);
        range(2, 0, 20, "doors", 2, 50, 0);
        due.of(23, "MOVE: what 0 the CELL, 1 WARM. BEYOND.");
        range(0, 0, 6, "settle", 0, 3, 1);
        range(1, 0, 30, "settle", 2, 0, 0);
        range(2, 0, 1, "settle", 2, 3, 0);
        due.of(24, "VOTE (may be below 0). BEYOND.");
        range(0, 0, 11, "vote", 0, 3);
        range(1, 0, 20, "vote", 5, 0);
        due.of(25, "COLD, n 0 to 60: what 0 the cell, 1 HEAT. BEYOND.");
        range(0, 0, 60, "cold", 0, 1);
        range(1, 0, 1, "cold", 4, 0);
        due.of(26, "KEEPS. BEYOND.");
        range(0, 0, 15, "keeps", 0);
        due.of(27, "FUEL. BEYOND.");
        range(0, 0, 60, "fuel", 0);
        due.of(28, "GLAD. BEYOND.");
        range(0, 0, 60, "glad", 0);
        due.of(29, "ODDS: part 0 above, 1 below the line. BEYOND.");
        range(0, 0, 6, "odds", 0, 5, 0);
        range(1, 1, 60, "odds", 1, 0, 0);
        range(2, 0, 1, "odds", 1, 5, 0);
    }

    /** A set of HOUSES: up to all that there are. */
    private static void wouldBeOfSets() {
        due.of(19, "FEED. BEYOND.");
        range(0, 0, 127, "feedFor", 0, 5);
        range(1, 1, 30, "feedFor", 2, 0);
        for (int n = 0; n <= 8; n++) {
            int many = n;
            Twins twins = new Twins(() -> Towns.withHouses(many));
            due.refused(twins, Due.BEYOND, "feedFor", 1 << n, 5);
            due.refused(twins, Due.BEYOND, "feedFor", (1 << n) + 1, 5);
            due.refused(twins, Due.BEYOND, "feedFor", -1, 5);
            OvenRings x = Towns.withHouses(n);
            x.feedFor((1 << n) - 1, 5);
            due.is("feedFor() of all " + n, x.told(1), 0);
        }
        due.of(22, "WHICH, by a SHEET: what 0 the set, 1 how many. BEYOND.");
        range(0, 0, 3, "which", 0, 0);
        range(1, 0, 1, "which", 1, 0);
    }

    private static void drawsAndVoices() {
        due.of(30, "z becomes v: what it was (any number).");
        anyNumber("seed", 0, 0);
        due.of(31, "A VOICE of a HOUSE: any number. BEYOND.");
        range(0, 0, 6, "voice", 0, 3, 9);
        range(1, 0, 3, "voice", 6, 0, 9);
        anyNumber("voice", 2, 6, 3, 0);
    }

    private static void sheets() {
        due.of(33, "A SHEET has n numbers, all 0, of so many bits (8, 16, 32; 0: it is missing, n doesn't matter): 1. BEYOND.");
        range(0, 0, 3, "sheet", 0, 16, 5);
        range(0, 0, 3, "sheet", 0, 0, 5);
        for (int bits = -40; bits <= 72; bits++) {
            boolean may = bits == 0 || bits == 8 || bits == 16 || bits == 32;
            if (may) {
                due.is(Towns.full(), 1, "sheet", 2, bits, 5);
            } else {
                due.refused(full, Due.BEYOND, "sheet", 2, bits, 5);
            }
        }
        long[] wild = {256, 264, 65536 + 8, MIN, MIN + 8L, MAX};
        for (long bits : wild) {
            due.refused(full, Due.BEYOND, "sheet", 2, bits, 5);
        }
        long[] tooMany = {41, 42, 256, 65536 + 5, MAX};
        for (long n : tooMany) {
            due.refused(full, Due.BEYOND, "sheet", 0, 8, n);
            due.refused(full, Due.BEYOND, "sheet", 1, 16, n);
            due.refused(full, Due.BEYOND, "sheet", 3, 32, n);
        }
        due.of(34, "Number i of a SHEET becomes v (its lowest bits): 1. BEYOND: no such SHEET.");
        range(0, 0, 3, "put", 0, 5, 9);
        range(1, 0, 19, "put", 0, 5, 9);
        range(1, 0, 15, "put", 1, 5, 9);
        range(1, 0, 39, "put", 2, 5, 9);
        anyNumber("put", 2, 2, 5, 9);
        due.of(35, "BEYOND: no such SHEET.");
        range(0, 0, 3, "move", 0, 0, 0, 0, 0);
        range(2, 0, 3, "move", 0, 0, 0, 0, 0);
        due.of(36, "BEYOND: no such SHEET.");
        range(0, 0, 3, "heats", 0);
        due.of(37, "BEYOND: no such SHEET.");
        range(0, 0, 3, "judge", 0);
    }

    private static void tells() {
        due.of(40, "One more number waits: how many.");
        anyNumber("tell", 0, 0);
        due.of(42, "9 BODIES in THE TRACE, 10 z (any number). BEYOND.");
        range(0, 0, 10, "count", 0);
        due.of(43, "How many acts have answered an ERROR LOW - k (k 1 .. 5); BEYOND: another k (counted, too).");
        range(0, 1, 5, "told", 0);
    }
}
