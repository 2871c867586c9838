/** Promises 1 to 6: a new object, cells, doors, the fire. */
public final class CellsTest {
    private static final Due due = new Due("CellsTest");

    public static void main(String[] args) {
        promise1();
        promise2();
        promise3();
        promise4();
        promise5();
        promise6();
        due.ends();
    }

    private static void promise1() {
        OvenRings x = new OvenRings();
        int[] counts = {0, 0, 20, 0, 0, 0, 0, 0, 0, 0, 1};
        for (int what = 0; what < counts.length; what++) {
            due.is("new: count(" + what + ")", x.count(what), counts[what]);
        }
        for (int k = 1; k <= 5; k++) {
            due.is("new: told(" + k + ")", x.told(k), 0);
        }
        for (int cell = 0; cell < 16; cell++) {
            due.is("new: HEAT of " + cell, x.ofCell(cell, 0), 0);
            due.is("new: HOUSES in " + cell, x.ofCell(cell, 2), 0);
        }
        due.is("new: doorsNow()", x.doorsNow(), 4095);
        due.is("new: law(0)", x.law(0, 1, 2, 3), 20);
        due.is("new: law(1)", x.law(1, 10, 2, 3), 3);
        due.is("new: ofHouse", x.ofHouse(0, 0), Due.BEYOND);
        for (int sheet = 0; sheet < 4; sheet++) {
            due.is("new: SHEET " + sheet, x.heats(sheet), Due.NONE);
        }
        due.is("new: trace(0)", x.trace(0), Due.NONE);
        due.is("new: restore()", x.restore(), Due.NONE);
        due.is("new: check()", x.check(), 0);
        due.is("new: image()", x.image(), 1);
    }

    private static void promise2() {
        OvenRings x = new OvenRings();
        due.is("heat(0, 999)", x.heat(0, 999), 0);
        due.is("heat(15, 7)", x.heat(15, 7), 0);
        due.is("heat(0, 0)", x.heat(0, 0), 999);
        due.is("heat(15, 8)", x.heat(15, 8), 7);
        int[][] wrong = {{-1, 5}, {16, 5}, {0, -1}, {15, 1000}, {Integer.MIN_VALUE, 0}, {0, Integer.MAX_VALUE}};
        for (int[] w : wrong) {
            due.is("heat(" + w[0] + ", " + w[1] + ")", x.heat(w[0], w[1]), Due.BEYOND);
        }
        due.is("heat: 15 as it was", x.ofCell(15, 0), 8);
        due.is("heat: 0 as it was", x.ofCell(0, 0), 0);
        due.is("heat: told", x.told(1), wrong.length);
    }

    private static void promise3() {
        OvenRings x = new OvenRings();
        x.heat(6, 44);
        x.house(0, 6);
        x.house(10, 7);
        x.house(20, 6);
        due.is("ofCell(6, 0)", x.ofCell(6, 0), 44);
        due.is("ofCell(6, 2)", x.ofCell(6, 2), 5);
        due.is("ofCell(7, 2)", x.ofCell(7, 2), 2);
        due.is("ofCell(8, 2)", x.ofCell(8, 2), 0);
        for (int cell = 0; cell < 16; cell++) {
            due.is("RING of " + cell, x.ofCell(cell, 1), cell / 4);
        }
        int[][] wrong = {{-1, 0}, {16, 0}, {0, -1}, {0, 3}, {Integer.MAX_VALUE, 1}, {5, Integer.MIN_VALUE}};
        for (int[] w : wrong) {
            due.is("ofCell(" + w[0] + ", " + w[1] + ")", x.ofCell(w[0], w[1]), Due.BEYOND);
        }
    }

    private static void promise4() {
        OvenRings x = new OvenRings();
        due.is("door(0, 0)", x.door(0, 0), 1);
        due.is("door(0, 0) again", x.door(0, 0), 0);
        due.is("door(11, 0)", x.door(11, 0), 1);
        due.is("doorsNow()", x.doorsNow(), 4095 - 1 - 2048);
        due.is("door(0, 1)", x.door(0, 1), 0);
        due.is("door(0, 1) again", x.door(0, 1), 1);
        int[][] wrong = {{-1, 0}, {12, 0}, {3, 2}, {3, -1}, {33, 1}, {Integer.MIN_VALUE, 0}};
        for (int[] w : wrong) {
            due.is("door(" + w[0] + ", " + w[1] + ")", x.door(w[0], w[1]), Due.BEYOND);
        }
        due.is("doorsNow() behind wrong ones", x.doorsNow(), 4095 - 2048);
    }

    private static void promise5() {
        OvenRings x = new OvenRings();
        int set = 4095;
        for (int door = 0; door < 12; door++) {
            x.door(door, 0);
            set -= 1 << door;
            due.is("doorsNow() less " + door, x.doorsNow(), set);
        }
        x.door(7, 1);
        due.is("doorsNow(), one", x.doorsNow(), 128);
    }

    private static void promise6() {
        OvenRings x = new OvenRings();
        due.is("fire(0, 99)", x.fire(0, 99), 20);
        due.is("fire(0, 0)", x.fire(0, 0), 99);
        due.is("fire(1, 9999)", x.fire(1, 9999), 0);
        due.is("fire(1, 3)", x.fire(1, 3), 9999);
        due.is("fire(2, 99999)", x.fire(2, 99999), 0);
        due.is("fire(2, 0)", x.fire(2, 0), 99999);
        due.is("fire(1, 0)", x.fire(1, 0), 3);
        due.is("fire(1, 3) again", x.fire(1, 3), 0);
        due.is("fire(2, 8)", x.fire(2, 8), 0);
        int[][] wrong = {{0, 100}, {0, -1}, {1, 10000}, {1, -1}, {2, 100000}, {2, -1}, {3, 0}, {-1, 0}};
        for (int[] w : wrong) {
            due.is("fire(" + w[0] + ", " + w[1] + ")", x.fire(w[0], w[1]), Due.BEYOND);
        }
        due.is("FED", x.count(2), 0);
        due.is("WANTS", x.count(3), 3);
        due.is("BURNT", x.count(4), 8);
    }
}
