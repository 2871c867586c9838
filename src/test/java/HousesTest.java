/** Promises 7 to 11: houses and their kinds. */
public final class HousesTest {
    private static final Due due = new Due("HousesTest");

    public static void main(String[] args) {
        promise7();
        promise8();
        promise8ByHour();
        promise8TakesNoMoreThanThereIs();
        promise8TakesInOneCell();
        promise8Content();
        promise9();
        promise10();
        promise11();
        due.ends();
    }

    private static void promise7() {
        OvenRings x = new OvenRings();
        int[][] wrong = {{-1, 0}, {70, 0}, {0, -1}, {0, 16}, {Integer.MIN_VALUE, 0}, {0, Integer.MAX_VALUE}};
        for (int[] w : wrong) {
            due.is("house(" + w[0] + ", " + w[1] + ")", x.house(w[0], w[1]), Due.BEYOND);
        }
        for (int i = 0; i < 8; i++) {
            due.is("house, the " + i + "th", x.house(i == 7 ? 69 : i * 9, i + 8), i);
        }
        due.is("house: BEYOND ahead of FULL", x.house(70, 0), Due.BEYOND);
        due.is("house: FULL", x.house(0, 0), Due.FULL);
        due.is("house: how many", x.count(0), 8);
        due.is("house: FULL is told", x.told(4), 1);
        due.is("house: KIND of the last", x.ofHouse(7, 0), 6);
        due.is("house: m of the last", x.ofHouse(7, 1), 9);
        due.is("house: CELL of the last", x.ofHouse(7, 2), 15);
        due.is("house: WARM of the last", x.ofHouse(7, 3), 0);
    }

    private static void promise8() {
        // LEAST, MOST, TAKES in HOUR 1, which 3 does not divide, with m 4
        int[][] byKind = {{40, 200, 2}, {48, 300, 6}, {20, 200, 1}, {40, 200, 2}, {100, 300, 0}, {16, 60, 2}, {44, 150, 2}};
        OvenRings x = new OvenRings();
        x.hours(1);
        for (int kind = 0; kind < 7; kind++) {
            x.house(kind * 10 + 4, kind + 5);
            x.heat(kind + 5, 500);
            due.is("KIND of " + kind, x.ofHouse(kind, 0), kind);
            due.is("m of " + kind, x.ofHouse(kind, 1), 4);
            due.is("CELL of " + kind, x.ofHouse(kind, 2), kind + 5);
            due.is("WARM of " + kind, x.ofHouse(kind, 3), 0);
            for (int i = 0; i < 3; i++) {
                due.is("ofHouse(" + kind + ", " + (4 + i) + ")", x.ofHouse(kind, 4 + i), byKind[kind][i]);
            }
        }
        x.change(3, 1, 77);
        due.is("WARM changed", x.ofHouse(3, 3), 77);
        int[][] wrong = {{-1, 0}, {7, 0}, {0, -1}, {0, 8}, {8, 0}, {Integer.MAX_VALUE, 0}, {0, Integer.MIN_VALUE}};
        for (int[] w : wrong) {
            due.is("ofHouse(" + w[0] + ", " + w[1] + ")", x.ofHouse(w[0], w[1]), Due.BEYOND);
        }
    }

    private static void promise8ByHour() {
        OvenRings x = new OvenRings();
        x.house(35, 15);
        x.house(67, 15);
        x.house(59, 15);
        int[] ofWidow = {30, 40, 40, 30, 40, 40, 30};
        int[] ofChurch = {1, 2, 3, 4, 5, 1, 2};
        for (int hour = 0; hour < 7; hour++) {
            x.heat(15, 500);
            due.is("LEAST of a WIDOW in HOUR " + hour, x.ofHouse(0, 4), ofWidow[hour]);
            due.is("LEAST of a LODGER in HOUR " + hour, x.ofHouse(1, 4), ofWidow[hour] + 7);
            due.is("LEAST of a CHURCH in HOUR " + hour, x.ofHouse(2, 4), 11);
            due.is("TAKES of a CHURCH in HOUR " + hour, x.ofHouse(2, 6), ofChurch[hour]);
            x.hours(1);
        }
    }

    private static void promise8TakesNoMoreThanThereIs() {
        // TAKES in HOUR 4, in which a CHURCH would take 5
        int[] most = {2, 6, 1, 2, 0, 5, 2};
        for (int kind = 0; kind < most.length; kind++) {
            OvenRings x = new OvenRings();
            x.hours(4);
            x.house(kind * 10 + 9, 15);
            for (int v = 0; v <= 8; v++) {
                x.heat(15, v);
                due.is("TAKES of " + kind + " with " + v, x.ofHouse(0, 6), Math.min(v, most[kind]));
            }
        }
    }

    private static void promise8TakesInOneCell() {
        OvenRings x = new OvenRings();
        for (int house = 0; house < 5; house++) {
            due.is("house(0, 0)", x.house(0, 0), house);
        }
        for (int v = 0; v <= 3; v++) {
            x.heat(0, v);
            for (int house = 0; house < 5; house++) {
                due.is("TAKES of each by HEAT " + v + " as it is", x.ofHouse(house, 6), Math.min(v, 2));
            }
        }
        x.heat(0, 0);
        x.heat(1, 9);
        due.is("another CELL is not told", x.ofHouse(0, 6), 0);
        x.change(0, 0, 1);
        due.is("its CELL is", x.ofHouse(0, 6), 2);
        due.is("asking takes nothing", x.ofCell(1, 0), 9);
    }

    private static void promise8Content() {
        OvenRings x = new OvenRings();
        x.house(0, 2);
        int[][] heatAndContent = {{39, 0}, {40, 1}, {200, 1}, {201, 0}};
        for (int[] h : heatAndContent) {
            x.heat(2, h[0]);
            due.is("CONTENT with " + h[0], x.ofHouse(0, 7), h[1]);
        }
        x.become(0, 55);
        x.heat(2, 15);
        due.is("a CHURCH with 15", x.ofHouse(0, 7), 1);
        x.heat(2, 61);
        due.is("a CHURCH with 61", x.ofHouse(0, 7), 0);
    }

    private static void promise9() {
        OvenRings x = new OvenRings();
        x.house(5, 3);
        due.is("change(0, 0, 15)", x.change(0, 0, 15), 3);
        due.is("change(0, 0, 0)", x.change(0, 0, 0), 15);
        due.is("change(0, 1, 9999)", x.change(0, 1, 9999), 0);
        due.is("change(0, 1, 0)", x.change(0, 1, 0), 9999);
        due.is("change(0, 1, 12)", x.change(0, 1, 12), 0);
        int[][] wrong = {{-1, 0, 0}, {1, 0, 0}, {0, 0, -1}, {0, 0, 16}, {0, 1, -1}, {0, 1, 10000}, {0, 2, 0}, {0, -1, 0}};
        for (int[] w : wrong) {
            due.is("change(" + w[0] + ", " + w[1] + ", " + w[2] + ")", x.change(w[0], w[1], w[2]), Due.BEYOND);
        }
        due.is("CELL as it was", x.ofHouse(0, 2), 0);
        due.is("WARM as it was", x.ofHouse(0, 3), 12);
    }

    private static void promise10() {
        OvenRings x = new OvenRings();
        x.house(13, 9);
        x.change(0, 1, 30);
        due.is("become(0, 69)", x.become(0, 69), 1);
        due.is("become(0, 0)", x.become(0, 0), 6);
        due.is("become(0, 47)", x.become(0, 47), 0);
        due.is("become: m", x.ofHouse(0, 1), 7);
        due.is("become: CELL stays", x.ofHouse(0, 2), 9);
        due.is("become: WARM stays", x.ofHouse(0, 3), 30);
        int[][] wrong = {{-1, 0}, {1, 0}, {0, -1}, {0, 70}, {Integer.MAX_VALUE, 0}};
        for (int[] w : wrong) {
            due.is("become(" + w[0] + ", " + w[1] + ")", x.become(w[0], w[1]), Due.BEYOND);
        }
        due.is("become: KIND as it was", x.ofHouse(0, 0), 4);
    }

    private static void promise11() {
        int[] above = {-1, 0, 0, 0, 1, 2, 3};
        OvenRings x = new OvenRings();
        x.house(0, 0);
        int refused = 0;
        for (int kind = 0; kind < 7; kind++) {
            x.become(0, kind * 10 + 6);
            for (int as = 0; as < 7; as++) {
                boolean is = as == kind || as == 0 || as == above[kind];
                refused += is ? 0 : 1;
                due.is("KIND " + kind + " as " + as, x.as(0, as), is ? 6 : Due.KIND);
            }
        }
        due.is("as: KIND is told", x.told(5), refused);
        int[][] wrong = {{-1, 0}, {1, 0}, {0, -1}, {0, 7}, {1, 9}, {0, Integer.MIN_VALUE}};
        for (int[] w : wrong) {
            due.is("as(" + w[0] + ", " + w[1] + ")", x.as(w[0], w[1]), Due.BEYOND);
        }
    }
}
