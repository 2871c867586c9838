import java.util.Arrays;

/** Promises 33 to 37: sheets. */
public final class SheetsTest {
    private static final Due due = new Due("SheetsTest");
    private static final int MIN = Integer.MIN_VALUE;
    private static final int MAX = Integer.MAX_VALUE;

    public static void main(String[] args) {
        promise33();
        promise34();
        promise35();
        promise35Overlap();
        promise36();
        promise37();
        due.ends();
    }

    private static void promise33() {
        OvenRings x = new OvenRings();
        due.is("sheet(0, 8, 40)", x.sheet(0, 8, 40), 1);
        due.is("the last stands", x.put(0, 39, 1), 1);
        due.is("no more stands", x.put(0, 40, 1), Due.BEYOND);
        due.is("sheet(3, 16, 0)", x.sheet(3, 16, 0), 1);
        due.is("none stands", x.put(3, 0, 1), Due.BEYOND);
        due.is("sheet(1, 32, 5)", x.sheet(1, 32, 5), 1);
        for (int i = 0; i < 5; i++) {
            x.put(1, i, 60 + i);
        }
        due.is("sheet(1, 16, 3) again", x.sheet(1, 16, 3), 1);
        x.heat(0, 9);
        due.is("all 0", x.heats(1), 3);
        due.is("HEAT 0", x.count(5), 0);
        int[] n = {5, 0, -1, 41, MIN, MAX};
        for (int v : n) {
            x.sheet(1, 8, 2);
            due.is("sheet(1, 0, " + v + ")", x.sheet(1, 0, v), 1);
            due.is("missing", x.put(1, 0, 0), Due.NONE);
        }
        int[][] wrong = {{-1, 8, 1}, {4, 8, 1}, {0, 7, 1}, {0, 64, 1}, {0, -8, 1}, {0, 24, 1}, {0, 8, 41}, {0, 32, MAX},
            {4, 8, -1}, {0, 9, -1}, {4, 0, 0}, {MIN, 0, 0}};
        for (int[] w : wrong) {
            due.is("sheet(" + w[0] + ", " + w[1] + ", " + w[2] + ")", x.sheet(w[0], w[1], w[2]), Due.BEYOND);
        }
        due.is("sheet(0, 8, -1)", x.sheet(0, 8, -1), Due.STATE);
        due.is("sheet(0, 16, MIN)", x.sheet(0, 16, MIN), Due.STATE);
        due.is("sheet: STATE is told", x.told(3), 2);
        due.is("the SHEET ahead stands", x.put(0, 39, 1), 1);
    }

    private static void promise34() {
        OvenRings x = new OvenRings();
        x.sheet(0, 8, 3);
        due.is("put(0, 0, 256 + 7)", x.put(0, 0, 256 + 7), 1);
        due.is("put(0, 1, -256)", x.put(0, 1, -256), 1);
        due.is("put(0, 2, 127)", x.put(0, 2, 127), 1);
        due.is("heats(0)", x.heats(0), 3);
        due.is("8 lowest bits", x.ofCell(0, 0), 7);
        due.is("8 lowest bits of -256", x.ofCell(1, 0), 0);
        due.is("127", x.ofCell(2, 0), 127);
        x.put(0, 1, 200);
        due.is("200 in 8 bits is below 0", x.heats(0), 1);
        x.sheet(0, 16, 2);
        x.put(0, 0, 65536 * 3 + 900);
        x.put(0, 1, 32768);
        due.is("heats of 16 bits", x.heats(0), 1);
        due.is("16 lowest bits", x.ofCell(0, 0), 900);
        x.sheet(0, 32, 2);
        x.put(0, 0, 999);
        x.put(0, 1, 65536 + 5);
        due.is("heats of 32 bits", x.heats(0), 1);
        due.is("32 bits", x.ofCell(0, 0), 999);
        due.is("put(1, 99, 0): NONE ahead of BEYOND", x.put(1, 99, 0), Due.NONE);
        int[][] wrong = {{-1, 0}, {4, 0}, {0, -1}, {0, 2}, {MAX, 0}, {0, MIN}, {0, MAX}};
        for (int[] w : wrong) {
            due.is("put(" + w[0] + ", " + w[1] + ", 1)", x.put(w[0], w[1], 1), Due.BEYOND);
        }
    }

    private static void promise35() {
        OvenRings x = new OvenRings();
        x.sheet(0, 16, 5);
        x.sheet(1, 16, 4);
        x.sheet(2, 32, 5);
        for (int i = 0; i < 5; i++) {
            x.put(0, i, 10 + i);
        }
        due.is("move(0, 1, 1, 0, 4)", x.move(0, 1, 1, 0, 4), 4);
        x.heats(1);
        for (int i = 0; i < 4; i++) {
            due.is("moved, " + i, x.ofCell(i, 0), 11 + i);
        }
        due.is("move of none at the ends", x.move(0, 5, 1, 4, 0), 0);
        due.is("move of none behind the end", x.move(0, 6, 1, 0, 0), Due.BEYOND);
        due.is("move of none to behind the end", x.move(0, 0, 1, 5, 0), Due.BEYOND);
        int[][] wrong = {{-1, 0, 1, 0, 1}, {4, 0, 1, 0, 1}, {0, 0, -1, 0, 1}, {0, 0, 4, 0, 1}, {0, 0, 1, 0, -1},
            {0, -1, 1, 0, 1}, {0, 0, 1, -1, 1}, {0, 2, 1, 0, 4}, {0, 0, 1, 1, 4}, {0, 0, 1, 0, 5}, {0, MAX, 1, 0, 2},
            {0, 0, 1, MAX, 2}, {0, 0, 1, 0, MAX}, {0, 1, 1, 1, MAX}, {0, MIN, 1, 0, 1}, {0, 0, 1, 0, MIN}, {3, 0, 4, 0, 1}};
        for (int[] w : wrong) {
            due.is("move of " + Arrays.toString(w), x.move(w[0], w[1], w[2], w[3], w[4]), Due.BEYOND);
        }
        due.is("move: one is missing", x.move(3, 0, 1, 0, 1), Due.NONE);
        due.is("move: the other is missing", x.move(0, 0, 3, 0, 1), Due.NONE);
        due.is("move: NONE ahead of BEYOND of n", x.move(0, 0, 3, 0, -1), Due.NONE);
        due.is("move: unlike bits", x.move(0, 0, 2, 0, 1), Due.KIND);
        due.is("move: KIND ahead of BEYOND of n", x.move(0, 0, 2, 0, -1), Due.KIND);
        due.is("move: both missing", x.move(3, 0, 3, 0, 1), Due.NONE);
        x.heats(1);
        due.is("as it was", x.ofCell(0, 0) * 100 + x.ofCell(3, 0), 1114);
    }

    private static void promise35Overlap() {
        OvenRings x = new OvenRings();
        x.sheet(0, 8, 6);
        for (int i = 0; i < 6; i++) {
            x.put(0, i, i + 1);
        }
        due.is("move(0, 0, 0, 2, 4)", x.move(0, 0, 0, 2, 4), 4);
        x.heats(0);
        int[] up = {1, 2, 1, 2, 3, 4};
        for (int i = 0; i < 6; i++) {
            due.is("moved up, " + i, x.ofCell(i, 0), up[i]);
        }
        due.is("move(0, 1, 0, 0, 5)", x.move(0, 1, 0, 0, 5), 5);
        x.heats(0);
        int[] down = {2, 1, 2, 3, 4, 4};
        for (int i = 0; i < 6; i++) {
            due.is("moved down, " + i, x.ofCell(i, 0), down[i]);
        }
    }

    private static void promise36() {
        OvenRings x = new OvenRings();
        x.sheet(0, 32, 20);
        for (int i = 0; i < 20; i++) {
            x.put(0, i, 980 + i);
        }
        due.is("heats: sixteen cells", x.heats(0), 16);
        for (int i = 0; i < 16; i++) {
            due.is("HEAT of " + i, x.ofCell(i, 0), 980 + i);
        }
        x.put(0, 0, 1);
        x.put(0, 3, 1000);
        due.is("heats: up to 1000", x.heats(0), 3);
        due.is("heats: the first", x.ofCell(0, 0), 1);
        due.is("heats: the fourth as it was", x.ofCell(3, 0), 983);
        x.put(0, 0, -1);
        due.is("heats: up to -1", x.heats(0), 0);
        x.put(0, 0, 999);
        x.put(0, 1, 0);
        due.is("heats: 999 and 0 are", x.heats(0), 3);
        x.sheet(1, 8, 0);
        due.is("heats of none", x.heats(1), 0);
        due.is("heats: no ERROR told", x.told(1) + x.told(2), 0);
        due.is("heats(2)", x.heats(2), Due.NONE);
        int[] wrong = {-1, 4, MIN, MAX};
        for (int sheet : wrong) {
            due.is("heats(" + sheet + ")", x.heats(sheet), Due.BEYOND);
        }
    }

    private static void promise37() {
        OvenRings x = new OvenRings();
        x.sheet(0, 8, 0);
        due.is("judge: none and none", x.judge(0), -1);
        x.house(0, 3);
        x.house(0, 0);
        x.house(0, 15);
        due.is("judge: the first lacks", x.judge(0), 0);
        x.sheet(0, 8, 3);
        due.is("judge: 0 is not 3", x.judge(0), 0);
        x.put(0, 0, 3);
        due.is("judge: 0 is not 15", x.judge(0), 2);
        x.put(0, 2, 15);
        due.is("judge: all are", x.judge(0), -1);
        x.sheet(1, 8, 2);
        x.move(0, 0, 1, 0, 2);
        due.is("judge: one lacks", x.judge(1), 2);
        x.sheet(1, 8, 5);
        x.move(0, 0, 1, 0, 3);
        due.is("judge: one is too many", x.judge(1), 3);
        due.is("judge: no ERROR told", x.told(1) + x.told(2), 0);
        due.is("judge(2)", x.judge(2), Due.NONE);
        int[] wrong = {-1, 4, MIN, MAX};
        for (int sheet : wrong) {
            due.is("judge(" + sheet + ")", x.judge(sheet), Due.BEYOND);
        }
    }
}
