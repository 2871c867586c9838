import java.io.IOException;

/**
 * What is refused for another reason than that a number is BEYOND: NONE, STATE, FULL, KIND; which of
 * two ERRORS is told first; and that none of them changes anything but what told() tells.
 */
public final class RefusedTest {
    private static final int MIN = Integer.MIN_VALUE;
    private static final int MAX = Integer.MAX_VALUE;
    private static final Twins full = new Twins(Towns::full);
    private static Sentences due;

    public static void main(String[] args) throws IOException {
        due = new Sentences("RefusedTest");
        numbersOfErrors();
        townsAreAsTheyMustBe();
        fullOfHouses();
        kinds();
        fullOfBytes();
        hourAtItsEnd();
        noneThatIsThought();
        noneInTheTrace();
        sheets();
        moves();
        noImage();
        fullOfNumbers();
        toldIsTold();
        due.ends();
    }

    private static void numbersOfErrors() {
        due.of(Sentences.TERMS, "ERRORS are answers below -1000000000: LOW is -1000000000; LOW - 1 BEYOND, LOW - 2 NONE, LOW - 3 "
            + "STATE, LOW - 4 FULL, LOW - 5 KIND.");
        OvenRings x = Towns.withHouses(8);
        due.is("BEYOND", x.heat(-1, 0), -1000000001);
        due.is("NONE", x.restore(), -1000000002);
        due.is("STATE", x.sheet(0, 8, -1), -1000000003);
        due.is("FULL", x.house(0, 0), -1000000004);
        due.is("KIND", x.as(0, 1), -1000000005);
    }

    private static void townsAreAsTheyMustBe() {
        due.of(Sentences.TERMS, "one that answers an ERROR changes nothing but what told() tells.");
        OvenRings x = Towns.full();
        due.is("numbers that wait", x.count(8), 3);
        due.is("bytes of THE TAPE", x.count(7), 3);
        due.is("BODIES in THE TRACE", x.count(9), 9);
        for (int k = 1; k <= 5; k++) {
            due.is("told(" + k + ") is not as at first", x.told(k) > 0 ? 1 : 0, 1);
        }
        due.is("what waits is right", x.check(), 0);
        due.is("THE TAPE has a TEXT", x.text(0), 1);
        due.is("the IMAGE stands", x.restore(), 1);
        due.is("in the IMAGE one waits", x.count(8), 1);
        due.is("in the IMAGE THE TAPE has two", x.count(7), 2);
        for (int less = 0; less < 60; less += 7) {
            due.is("HOUR", Towns.late(less).count(1), 9999 - less);
        }
    }

    private static void fullOfHouses() {
        due.of(7, "BEYOND. FULL.");
        for (int n = 0; n < 8; n++) {
            due.is(Towns.withHouses(n), n, "house", 69, 15);
        }
        Twins eight = new Twins(() -> Towns.withHouses(8));
        due.refused(eight, Due.FULL, "house", 0, 0);
        due.refused(eight, Due.FULL, "house", 69, 15);
        due.refused(eight, Due.BEYOND, "house", 70, 15);
        due.refused(eight, Due.BEYOND, "house", 69, 16);
        due.refused(eight, Due.BEYOND, "house", -1, 0);
        due.refused(eight, Due.BEYOND, "house", 0, -1);
    }

    private static void kinds() {
        due.of(11, "KIND: it isn't of that KIND, nor of one under it.");
        int[] above = {-1, 0, 0, 0, 1, 2, 3};
        for (int kind = 0; kind < 7; kind++) {
            int of = kind;
            Twins twins = new Twins(() -> ofKind(of));
            for (int as = 0; as < 7; as++) {
                if (as == kind || as == 0 || as == above[kind]) {
                    due.is(ofKind(kind), 7, "as", 2, as);
                } else {
                    due.refused(twins, Due.KIND, "as", 2, as);
                }
            }
            due.refused(twins, Due.BEYOND, "as", 2, 7);
            due.refused(twins, Due.BEYOND, "as", 2, -1);
        }
        due.refused(full, Due.BEYOND, "as", 7, 1);
    }

    /** HOUSE 2 of a full town is of a KIND, and m is 7. */
    private static OvenRings ofKind(int kind) {
        OvenRings x = Towns.full();
        x.become(2, kind * 10 + 7);
        return x;
    }

    private static void fullOfBytes() {
        due.of(12, "come to THE TAPE: how many there are. BEYOND. FULL.");
        for (int n = 1; n <= 8; n++) {
            for (int ahead = 42; ahead <= 50; ahead++) {
                int bytes = ahead;
                if (ahead + n <= 50) {
                    due.is(taped(ahead), ahead + n, "feed", 0x3333333333333333L, n);
                } else {
                    due.refused(new Twins(() -> taped(bytes)), Due.FULL, "feed", 0x3333333333333333L, n);
                }
            }
        }
        Twins fifty = new Twins(() -> taped(50));
        long[] beyond = {0, 9, -1, MIN, MAX};
        for (long n : beyond) {
            due.refused(fifty, Due.BEYOND, "feed", 0, n);
        }
        due.refused(fifty, Due.BEYOND, "text", 2);
        due.refused(fifty, Due.BEYOND, "text", -1);
    }

    /** So many bytes are on THE TAPE, which is no TEXT. */
    private static OvenRings taped(int bytes) {
        OvenRings x = new OvenRings();
        x.image();
        Due.tape(x, "f+".repeat(25).substring(0, bytes));
        return x;
    }

    private static void hourAtItsEnd() {
        int[][] lessAndMay = {{0, 0}, {1, 1}, {2, 2}, {39, 39}, {40, 40}, {59, 59}, {60, 60}, {61, 60}};
        for (int[] l : lessAndMay) {
            int less = l[0];
            Twins twins = new Twins(() -> Towns.late(less));
            due.of(15, "STATE: HOUR would be above 9999.");
            end(twins, "hours", less, l[1], 60);
            due.of(16, "STATE: HOUR would be above 9999.");
            end(twins, "loose", less, Math.min(l[1], 40), 40);
        }
    }

    private static void end(Twins twins, String name, int less, int may, int most) {
        if (may >= 1) {
            OvenRings x = Towns.late(less);
            due.is(Call.text(name, may) + " is all HEAT", Call.of(x, name, may), x.count(5));
            due.is("HOUR behind it", x.count(1), 9999 - less + may);
            due.is("no ERROR", x.told(1) + x.told(3), 0);
        }
        if (may < most) {
            due.refused(twins, Due.STATE, name, may + 1L);
            due.refused(twins, Due.STATE, name, most);
        }
        due.refused(twins, Due.BEYOND, name, most + 1L);
        due.refused(twins, Due.BEYOND, name, 0);
        due.refused(twins, Due.BEYOND, name, MIN);
        due.refused(twins, Due.BEYOND, name, MAX);
    }

    private static void noneThatIsThought() {
        due.of(18, "NONE: not by 60.");
        Twins cold = new Twins(RefusedTest::cold);
        for (int what = 0; what < 2; what++) {
            due.refused(cold, Due.NONE, "hot", 61, what);
            due.refused(cold, Due.NONE, "hot", 999, what);
        }
        due.refused(cold, Due.BEYOND, "hot", 1000, 0);
        due.refused(cold, Due.BEYOND, "hot", 999, 2);
        due.of(19, "NONE: with none.");
        due.refused(cold, Due.NONE, "feedFor", 1, 1);
        due.refused(cold, Due.BEYOND, "feedFor", 1, 31);
        due.refused(cold, Due.BEYOND, "feedFor", 2, 1);
        due.of(21, "NONE: not by two.");
        due.refused(cold, Due.NONE, "doors", 0, 999, 20);
        due.refused(cold, Due.NONE, "doors", 0, 1, 0);
        due.refused(cold, Due.BEYOND, "doors", 0, 1000, 20);
        due.refused(cold, Due.BEYOND, "doors", 0, 999, 21);
        due.refused(cold, Due.BEYOND, "doors", 1, 999, 20);
        due.of(26, "NONE: not by 60.");
        due.refused(cold, Due.NONE, "keeps", 0);
        due.refused(cold, Due.NONE, "keeps", 15);
        due.refused(cold, Due.BEYOND, "keeps", 16);
    }

    /** Bricks alone, FED 1, and a BAKER far from the fire. */
    private static OvenRings cold() {
        OvenRings x = HoursTest.walled();
        x.fire(0, 1);
        x.house(40, 7);
        return x;
    }

    private static void noneInTheTrace() {
        due.of(32, "THE TRACE's i-th. NONE: there is none such.");
        // the longest TRACE that there is: of a LODGER that tells
        int[] bodies = {71, 11, 10, 13, 11, 10, 70, 40, 12};
        for (int i = 0; i < bodies.length; i++) {
            due.is(Towns.full(), bodies[i], "trace", i);
        }
        long[] none = {-1, 9, 10, 39, 40, 41, 256, MIN, MAX};
        for (long i : none) {
            due.refused(full, Due.NONE, "trace", i);
        }
        due.refused(new Twins(OvenRings::new), Due.NONE, "trace", 0);
        due.refused(new Twins(OvenRings::new), Due.NONE, "trace", -1);
    }

    private static void sheets() {
        due.of(33, "BEYOND. STATE: n is below 0 (ahead of BEYOND of n).");
        long[] below = {-1, -2, -256, MIN};
        for (long n : below) {
            due.refused(full, Due.STATE, "sheet", 0, 8, n);
            due.refused(full, Due.STATE, "sheet", 3, 16, n);
            due.refused(full, Due.STATE, "sheet", 2, 32, n);
            due.refused(full, Due.BEYOND, "sheet", 4, 8, n);
            due.refused(full, Due.BEYOND, "sheet", -1, 8, n);
            due.refused(full, Due.BEYOND, "sheet", 0, 24, n);
            due.is(Towns.full(), 1, "sheet", 0, 0, n);
        }
        due.of(22, "NONE: the SHEET is missing, has not 16 numbers.");
        for (int what = 0; what < 2; what++) {
            due.refused(full, Due.NONE, "which", 3, what);
            due.refused(full, Due.NONE, "which", 0, what);
            due.refused(full, Due.NONE, "which", 2, what);
            due.is(Towns.full(), 0, "which", 1, what);
            for (int n = 0; n <= 40; n++) {
                int many = n;
                if (n != 16) {
                    due.refused(new Twins(() -> withSheet(many)), Due.NONE, "which", 0, what);
                }
            }
        }
        due.refused(full, Due.BEYOND, "which", 3, 2);
        due.refused(full, Due.BEYOND, "which", 4, 0);
        due.of(34, "NONE: it is missing. BEYOND: no such number.");
        due.refused(full, Due.NONE, "put", 3, 0, 1);
        due.refused(full, Due.NONE, "put", 3, -1, 1);
        due.refused(full, Due.NONE, "put", 3, 40, 1);
        due.refused(full, Due.BEYOND, "put", 4, 0, 1);
        due.refused(new Twins(() -> withSheet(0)), Due.BEYOND, "put", 0, 0, 1);
        due.refused(new Twins(() -> withSheet(1)), Due.BEYOND, "put", 0, 1, 1);
        due.refused(new Twins(() -> withSheet(40)), Due.BEYOND, "put", 0, 40, 1);
        due.is(withSheet(1), 1, "put", 0, 0, 1);
        due.is(withSheet(40), 1, "put", 0, 39, 1);
        due.of(36, "NONE: it is missing.");
        due.refused(full, Due.NONE, "heats", 3);
        due.of(37, "NONE: it is missing.");
        due.refused(full, Due.NONE, "judge", 3);
        missingAtFirst();
    }

    private static void missingAtFirst() {
        due.of(Sentences.TERMS, "or missing (as at first)");
        Twins made = new Twins(OvenRings::new);
        for (int sheet = 0; sheet < 4; sheet++) {
            due.refused(made, Due.NONE, "put", sheet, 0, 0);
            due.refused(made, Due.NONE, "heats", sheet);
            due.refused(made, Due.NONE, "judge", sheet);
            due.refused(made, Due.NONE, "which", sheet, 0);
            due.refused(made, Due.NONE, "move", sheet, 0, sheet, 0, 0);
        }
    }

    private static OvenRings withSheet(int n) {
        OvenRings x = new OvenRings();
        x.sheet(0, 16, n);
        return x;
    }

    /** SHEETS 0 and 1 have 20 and 16 numbers of 16 bits, 2 has 40 of 32, 3 is missing. */
    private static OvenRings alikeBits() {
        OvenRings x = Towns.full();
        x.sheet(0, 16, 20);
        x.put(0, 4, 44);
        x.put(1, 4, 55);
        return x;
    }

    private static void moves() {
        due.of(35, "BEYOND: no such SHEET. NONE: one is missing. KIND: they are of unlike bits. "
            + "BEYOND: n, i, or j is below 0, or they don't stand there.");
        Twins twins = new Twins(RefusedTest::alikeBits);
        long[][] noSheet = {{4, 0, 0, 0, 1}, {0, 0, 4, 0, 1}, {-1, 0, 0, 0, 1}, {0, 0, -1, 0, 1}, {3, 0, 4, 0, 1},
            {4, 0, 3, 0, 1}, {2, -1, 4, 0, 1}};
        long[][] missing = {{3, 0, 0, 0, 1}, {0, 0, 3, 0, 1}, {3, 0, 3, 0, 0}, {3, -1, 2, 0, 99}, {2, 0, 3, 0, -1}};
        long[][] unlike = {{0, 0, 2, 0, 1}, {2, 0, 0, 0, 1}, {1, 0, 2, 0, 0}, {0, -1, 2, 0, 1}, {0, 0, 2, -1, 1},
            {2, 0, 1, 0, -1}, {2, 0, 1, 0, 99}};
        long[][] notThere = {{0, 0, 1, 0, -1}, {0, -1, 1, 0, 1}, {0, 0, 1, -1, 1}, {0, -1, 1, -1, -1}, {0, 20, 1, 0, 1},
            {0, 0, 1, 16, 1}, {0, 5, 1, 0, 16}, {0, 4, 1, 0, 17}, {0, 0, 1, 0, 17}, {0, 0, 1, 1, 16}, {1, 0, 0, 5, 16},
            {1, 1, 0, 0, 16}, {0, 21, 1, 0, 0}, {0, 0, 1, 17, 0}, {0, 0, 0, 1, 20}, {0, 1, 0, 0, 20}, {0, MAX, 1, 0, 1},
            {0, 0, 1, MAX, 1}, {0, 0, 1, 0, MAX}, {0, 1, 1, 1, MAX}, {0, MAX, 1, 0, MAX}, {0, MIN, 1, 0, MIN},
            {0, MIN, 1, 0, 1}, {0, 0, 1, MIN, 1}, {0, 0, 1, 0, MIN}};
        refusedAll(twins, Due.BEYOND, noSheet);
        refusedAll(twins, Due.NONE, missing);
        refusedAll(twins, Due.KIND, unlike);
        refusedAll(twins, Due.BEYOND, notThere);
        long[][] may = {{0, 4, 1, 0, 16}, {0, 0, 1, 0, 16}, {1, 0, 0, 4, 16}, {0, 19, 1, 15, 1}, {0, 20, 1, 16, 0},
            {0, 0, 1, 0, 0}, {0, 0, 0, 0, 20}, {0, 1, 0, 0, 19}, {0, 0, 0, 1, 19}, {0, 20, 0, 20, 0}};
        for (long[] a : may) {
            due.is(alikeBits(), a[4], "move", a);
        }
    }

    private static void refusedAll(Twins twins, int error, long[][] all) {
        for (long[] a : all) {
            due.refused(twins, error, "move", a);
        }
    }

    private static void noImage() {
        due.of(39, "NONE: there is none.");
        due.refused(new Twins(OvenRings::new), Due.NONE, "restore");
        due.refused(new Twins(() -> withSheet(3)), Due.NONE, "restore");
    }

    private static void fullOfNumbers() {
        due.of(40, "FULL: 20 wait.");
        for (int n = 0; n < 20; n++) {
            due.is(waiting(n), n + 1L, "tell", 1);
        }
        Twins twenty = new Twins(() -> waiting(20));
        due.refused(twenty, Due.FULL, "tell", 0);
        due.refused(twenty, Due.FULL, "tell", MIN);
        due.refused(twenty, Due.FULL, "tell", MAX);
    }

    /** So many right numbers wait: nothing is fed, and one cell behind bricks keeps 33. */
    private static OvenRings waiting(int n) {
        OvenRings x = HoursTest.walled();
        x.heat(5, 33);
        x.image();
        for (int i = 0; i < n; i++) {
            x.tell(33);
        }
        return x;
    }

    private static void toldIsTold() {
        due.of(43, "BEYOND: another k (counted, too).");
        OvenRings x = new OvenRings();
        int[] beyond = {0, 6, -1, MIN, MAX};
        for (int i = 0; i < beyond.length; i++) {
            due.is(x, Due.BEYOND, "told", beyond[i]);
            due.is("told(1) behind it", x.told(1), i + 1);
            for (int k = 2; k <= 5; k++) {
                due.is("told(" + k + ") behind it", x.told(k), 0);
            }
        }
        for (int i = 0; i < 300; i++) {
            x.heat(16, 0);
        }
        due.is("told(1) behind 300 more", x.told(1), beyond.length + 300);
    }
}
