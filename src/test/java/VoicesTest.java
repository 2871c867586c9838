/** Promises 30 to 32: draws, voices and their trace. */
public final class VoicesTest {
    private static final Due due = new Due("VoicesTest");

    public static void main(String[] args) {
        promise30();
        promise31();
        promise31Wide();
        promise32();
        due.ends();
    }

    private static void promise30() {
        OvenRings x = new OvenRings();
        due.is("seed(5)", x.seed(5), 1);
        due.is("seed(MIN)", x.seed(Integer.MIN_VALUE), 5);
        due.is("seed(-1000000003)", x.seed(-1000000003), Integer.MIN_VALUE);
        due.is("seed: no ERROR, though it is as one", x.seed(-1), -1000000003);
        due.is("seed: z", x.count(10), -1);
        due.is("seed: nothing told", x.told(3), 0);
    }

    private static void promise31() {
        // what HOUSE 2 with m 5 answers to 7, and which BODIES began
        OvenRings x = new OvenRings();
        x.house(0, 0);
        x.house(0, 0);
        x.house(5, 0);
        says(x, 0, 0, 9, 10);
        says(x, 0, 1, 18, 11, 10);
        says(x, 0, 2, 2, 12);
        says(x, 0, 3, 16, 13, 11, 10, 12);
        says(x, 1, 0, 27, 20, 10);
        says(x, 1, 1, 54, 11, 20, 10);
        says(x, 1, 2, 2, 12);
        says(x, 1, 3, 52, 13, 11, 20, 10, 12);
        says(x, 2, 0, 9, 10);
        says(x, 2, 1, 22, 30, 11, 10, 12);
        says(x, 2, 2, 2, 12);
        says(x, 2, 3, 20, 13, 30, 11, 10, 12, 12);
        says(x, 3, 0, 9, 10);
        says(x, 3, 1, 18, 11, 10);
        says(x, 3, 2, -2, 40, 12);
        says(x, 3, 3, -20, 13, 11, 10, 40, 12);
        says(x, 4, 0, 27, 20, 10);
        says(x, 4, 1, 54, 11, 20, 10);
        says(x, 4, 2, 2, 12);
        says(x, 4, 3, 40, 50, 13, 11, 20, 10, 12, 20, 10);
        says(x, 5, 0, 9, 10);
        says(x, 5, 1, 24, 60, 30, 11, 10, 12);
        says(x, 5, 2, 2, 12);
        says(x, 5, 3, 26, 13, 60, 30, 11, 10, 12, 12);
        says(x, 6, 0, 9, 10);
        says(x, 6, 1, 18, 11, 10);
        says(x, 6, 2, -4, 70, 40, 12);
        says(x, 6, 3, 36, 71, 11, 10, 13, 11, 10, 70, 40, 12);
    }

    private static void says(OvenRings x, int kind, int act, int want, int... bodies) {
        x.become(2, kind * 10 + 5);
        String call = "KIND " + kind + ", voice(2, " + act + ", 7)";
        due.is(call, x.voice(2, act, 7), want);
        due.is(call + ": how many BODIES", x.count(9), bodies.length);
        for (int i = 0; i < bodies.length; i++) {
            due.is(call + ": trace(" + i + ")", x.trace(i), bodies[i]);
        }
        due.is(call + ": no more", x.trace(bodies.length), Due.NONE);
    }

    private static void promise31Wide() {
        OvenRings x = new OvenRings();
        x.house(0, 0);
        x.house(9, 0);
        due.is("voice that goes round", x.voice(1, 0, Integer.MAX_VALUE), Integer.MIN_VALUE);
        due.is("voice that goes round below", x.voice(1, 2, Integer.MIN_VALUE), Integer.MAX_VALUE - 8);
        due.is("voice that is as an ERROR", x.voice(0, 0, -1000000001), -1000000001);
        due.is("voice: nothing told", x.told(1), 0);
        int[][] wrong = {{-1, 0}, {2, 0}, {0, -1}, {0, 4}, {Integer.MAX_VALUE, 0}, {0, Integer.MIN_VALUE}};
        for (int[] w : wrong) {
            due.is("voice(" + w[0] + ", " + w[1] + ", 0)", x.voice(w[0], w[1], 0), Due.BEYOND);
        }
        due.is("voice: ERRORS are told", x.told(1), wrong.length);
    }

    private static void promise32() {
        OvenRings x = new OvenRings();
        due.is("trace(0), ahead of all", x.trace(0), Due.NONE);
        x.house(3, 0);
        x.voice(0, 3, 1);
        due.is("BODIES", x.count(9), 4);
        x.voice(0, 9, 1);
        due.is("BODIES stay behind an ERROR", x.count(9), 4);
        due.is("trace(0)", x.trace(0), 13);
        due.is("trace(3)", x.trace(3), 12);
        int[] wrong = {-1, 4, 40, Integer.MIN_VALUE, Integer.MAX_VALUE};
        for (int i : wrong) {
            due.is("trace(" + i + ")", x.trace(i), Due.NONE);
        }
        due.is("trace: NONE is told", x.told(2), wrong.length + 1);
        x.image();
        x.voice(0, 2, 1);
        x.restore();
        due.is("the latest alone, whatever is restored", x.count(9), 1);
        due.is("trace(0) of the latest", x.trace(0), 12);
    }
}
