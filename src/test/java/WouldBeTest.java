/** Promises 17 to 29: what would be. */
public final class WouldBeTest {
    private static final Due due = new Due("WouldBeTest");
    private static final int MIN = Integer.MIN_VALUE;
    private static final int MAX = Integer.MAX_VALUE;

    public static void main(String[] args) {
        promise17();
        promise18();
        promise19();
        promise20();
        promise21();
        promise22();
        promise23();
        promise24();
        promise25();
        promise26();
        promise27();
        promise28();
        promise29();
        thoughtChangesNothing();
        due.ends();
    }

    /** Nothing goes through doors, no fire. */
    private static OvenRings walled() {
        return HoursTest.walled();
    }

    private static void promise17() {
        OvenRings x = Due.town();
        x.image();
        int[] far = {0, 1, 7, 60};
        for (int n : far) {
            int[] ahead = new int[16];
            for (int cell = 0; cell < 16; cell++) {
                ahead[cell] = x.then(n, cell);
            }
            if (n > 0) {
                x.hours(n);
            }
            for (int cell = 0; cell < 16; cell++) {
                due.is("then(" + n + ", " + cell + ")", ahead[cell], x.ofCell(cell, 0));
            }
            x.restore();
        }
        int[][] wrong = {{-1, 0}, {61, 0}, {0, -1}, {0, 16}, {MAX, 0}, {0, MIN}};
        for (int[] w : wrong) {
            due.is("then(" + w[0] + ", " + w[1] + ")", x.then(w[0], w[1]), Due.BEYOND);
        }
    }

    private static void promise18() {
        OvenRings x = walled();
        due.is("hot(1, 0): never", x.hot(1, 0), Due.NONE);
        due.is("hot(1, 1): never", x.hot(1, 1), Due.NONE);
        x.fire(0, 1);
        due.is("hot(60, 0)", x.hot(60, 0), 60);
        due.is("hot(60, 1)", x.hot(60, 1), 0);
        due.is("hot(61, 0)", x.hot(61, 0), Due.NONE);
        x.heat(2, 5);
        due.is("hot(7, 0)", x.hot(7, 0), 2);
        due.is("hot(7, 1)", x.hot(7, 1), 2);
        x.heat(9, 500);
        due.is("hot(500, 0) at once", x.hot(500, 0), 0);
        due.is("hot(500, 1)", x.hot(500, 1), 9);
        x.heat(3, 600);
        due.is("hot(500, 1), the least", x.hot(500, 1), 3);
        x.heat(15, 999);
        due.is("hot(999, 1)", x.hot(999, 1), 15);
        int[][] wrong = {{0, 0}, {1000, 0}, {5, -1}, {5, 2}, {MIN, 0}, {MAX, 1}};
        for (int[] w : wrong) {
            due.is("hot(" + w[0] + ", " + w[1] + ")", x.hot(w[0], w[1]), Due.BEYOND);
        }
    }

    private static void promise19() {
        OvenRings x = walled();
        x.fire(0, 20);
        due.is("feedFor(0, 1) without HOUSES", x.feedFor(0, 1), 0);
        due.is("feedFor(1, 1) without HOUSES", x.feedFor(1, 1), Due.BEYOND);
        x.house(0, 0);
        due.is("feedFor(1, 1): 42 less 2", x.feedFor(1, 1), 42);
        due.is("feedFor(1, 2): twice 22 less 4", x.feedFor(1, 2), 22);
        due.is("feedFor(1, 30)", x.feedFor(1, 30), 4);
        x.change(0, 1, 9999);
        due.is("feedFor, WARM being held", x.feedFor(1, 1), 42);
        x.house(40, 1);
        due.is("feedFor(2, 1): a baker wants 100", x.feedFor(2, 1), Due.NONE);
        x.heat(1, 1);
        due.is("feedFor(2, 1): with 99", x.feedFor(2, 1), 99);
        due.is("feedFor(3, 1): both", x.feedFor(3, 1), 99);
        due.is("feedFor(0, 30): none told", x.feedFor(0, 30), 0);
        x.heat(1, 299);
        due.is("feedFor(2, 2): in the second HOUR", x.feedFor(2, 2), 0);
        x.heat(0, 41);
        due.is("feedFor(1, 2): not in the first alone", x.feedFor(1, 2), 2);
        x.heat(1, 301);
        due.is("feedFor(2, 1): too hot", x.feedFor(2, 1), Due.NONE);
        x.heat(1, 100);
        due.is("feedFor(2, 1): as it is", x.feedFor(2, 1), 0);
        due.is("FED as it was", x.count(2), 20);
        int[][] wrong = {{-1, 1}, {4, 1}, {MAX, 1}, {MIN, 1}, {1, 0}, {1, 31}, {1, -1}, {256, 5}};
        for (int[] w : wrong) {
            due.is("feedFor(" + w[0] + ", " + w[1] + ")", x.feedFor(w[0], w[1]), Due.BEYOND);
        }
        x = new OvenRings();
        for (int i = 0; i < 8; i++) {
            x.house(20, 4 + i);
            x.heat(4 + i, 60);
        }
        due.is("feedFor(255, 1)", x.feedFor(255, 1), 0);
        due.is("feedFor(256, 1)", x.feedFor(256, 1), Due.BEYOND);
    }

    private static void promise20() {
        OvenRings x = walled();
        x.house(0, 4);
        x.heat(0, 150);
        due.is("open: a brick changed", x.open(0, 1), 0);
        x.heat(0, 0);
        x.heat(4, 45);
        x.door(4, 1);
        due.is("open: a DOOR changed", x.open(0, 1), 4);
        x.heat(0, 150);
        due.is("open: of two the least", x.open(0, 1), 0);
        due.is("open(0, 2): the most", x.open(0, 2), 0);
        x.door(4, 0);
        due.is("open: none makes it more", x.open(0, 1), -1);
        due.is("open(0, 0)", x.open(0, 0), -1);
        due.is("open(0, 20)", x.open(0, 20), 0);
        x.change(0, 1, 9999);
        due.is("open: WARM is held", x.open(0, 20), -1);
        int[][] wrong = {{-1, 1}, {1, 1}, {0, -1}, {0, 21}, {MAX, 0}, {0, MIN}};
        for (int[] w : wrong) {
            due.is("open(" + w[0] + ", " + w[1] + ")", x.open(w[0], w[1]), Due.BEYOND);
        }
    }

    private static void promise21() {
        OvenRings x = walled();
        x.house(20, 8);
        x.heat(0, 300);
        due.is("doors(0, 0, 0)", x.doors(0, 0, 0), 0);
        due.is("doors(0, 32, 2): two", x.doors(0, 32, 2), 17);
        due.is("doors(0, 33, 2): not by two", x.doors(0, 33, 2), Due.NONE);
        due.is("doors(0, 1, 0): nothing goes in no time", x.doors(0, 1, 0), Due.NONE);
        x.door(4, 1);
        due.is("doors(0, 32, 2): one, door 0", x.doors(0, 32, 2), 1);
        x.door(4, 0);
        x.door(0, 1);
        due.is("doors(0, 32, 2): one", x.doors(0, 32, 2), 16);
        x.door(4, 1);
        due.is("doors(0, 32, 2): as it is", x.doors(0, 32, 2), 0);
        x = walled();
        x.house(20, 8);
        x.heat(8, 40);
        x.heat(4, 400);
        x.door(8, 1);
        due.is("doors: of 16 and 256 the least", x.doors(0, 39, 1), 16);
        due.is("doors: 40 less 13 less 1", x.doors(0, 26, 1), 0);
        x.heat(4, 0);
        due.is("doors: a DOOR changed", x.doors(0, 27, 1), 256);
        due.is("doors(0, 999, 20)", x.doors(0, 999, 20), Due.NONE);
        due.is("doors: a door that is alone", x.doors(0, 39, 1), 256);
        int[][] wrong = {{-1, 1, 1}, {1, 1, 1}, {0, -1, 1}, {0, 1000, 1}, {0, 1, -1}, {0, 1, 21}, {0, MAX, 0}, {MIN, 0, 0}};
        for (int[] w : wrong) {
            due.is("doors(" + w[0] + ", " + w[1] + ", " + w[2] + ")", x.doors(w[0], w[1], w[2]), Due.BEYOND);
        }
    }

    private static void promise22() {
        OvenRings x = new OvenRings();
        x.fire(0, 0);
        x.heat(0, 100);
        due.is("which of no SHEET", x.which(2, 0), Due.NONE);
        due.is("which: BEYOND ahead of NONE", x.which(2, 2), Due.BEYOND);
        x.sheet(2, 16, 16);
        x.put(2, 0, 100);
        due.is("which: door 0 shut", x.which(2, 0), 1);
        due.is("which: how many", x.which(2, 1), 1);
        x.put(2, 0, 67);
        x.put(2, 4, 33);
        due.is("which: all but 0", x.which(2, 0), 4094);
        due.is("which: how many of them", x.which(2, 1), 11);
        x.put(2, 0, 66);
        due.is("which: cell 0 is told, too", x.which(2, 0), 0);
        x.put(2, 0, 67);
        x.put(2, 15, 1);
        due.is("which: none", x.which(2, 0), 0);
        due.is("which: how many, none", x.which(2, 1), 0);
        x.put(2, 15, 0);
        x.sheet(1, 16, 15);
        x.sheet(0, 16, 17);
        x.move(2, 0, 1, 0, 15);
        x.move(2, 0, 0, 0, 16);
        due.is("which of 15", x.which(1, 0), Due.NONE);
        due.is("which of 17", x.which(0, 1), Due.NONE);
        x.sheet(0, 8, 16);
        x.put(0, 0, 67);
        x.put(0, 4, 33);
        due.is("which of 8 bits", x.which(0, 0), 4094);
        x.door(0, 0);
        due.is("which: a brick changed", x.which(0, 0), 1);
        int[][] wrong = {{-1, 0}, {4, 0}, {2, -1}, {2, 2}, {MAX, 0}, {MIN, 1}};
        for (int[] w : wrong) {
            due.is("which(" + w[0] + ", " + w[1] + ")", x.which(w[0], w[1]), Due.BEYOND);
        }
    }

    private static void promise23() {
        OvenRings x = walled();
        x.house(20, 3);
        x.change(0, 1, 7);
        x.heat(5, 100);
        x.heat(9, 100);
        due.is("settle(0, 3, 0): of two the least", x.settle(0, 3, 0), 5);
        due.is("settle(0, 3, 1)", x.settle(0, 3, 1), 10);
        x.heat(3, 22);
        due.is("settle(0, 3, 0): from now on", x.settle(0, 3, 0), 5);
        due.is("settle(0, 3, 1): three and no more", x.settle(0, 3, 1), 10);
        x.heat(3, 0);
        x.heat(5, 21);
        due.is("settle(0, 3, 0): the most", x.settle(0, 3, 0), 9);
        due.is("settle(0, 0, 0)", x.settle(0, 0, 0), 0);
        due.is("settle(0, 0, 1)", x.settle(0, 0, 1), 7);
        due.is("settle(0, 30, 1)", x.settle(0, 30, 1), 37);
        due.is("CELL as it was", x.ofHouse(0, 2), 3);
        x.change(0, 1, 9998);
        due.is("settle: WARM is held", x.settle(0, 30, 1), 9999);
        due.is("settle: held in 5, too", x.settle(0, 30, 0), 5);
        int[][] wrong = {{-1, 1, 0}, {1, 1, 0}, {0, -1, 0}, {0, 31, 0}, {0, 1, -1}, {0, 1, 2}, {MAX, 0, 0}};
        for (int[] w : wrong) {
            due.is("settle(" + w[0] + ", " + w[1] + ", " + w[2] + ")", x.settle(w[0], w[1], w[2]), Due.BEYOND);
        }
    }

    private static void promise24() {
        OvenRings x = walled();
        x.heat(0, 45);
        x.heat(4, 15);
        x.house(0, 0);
        due.is("vote: one against", x.vote(0, 1), -1);
        x.house(20, 4);
        due.is("vote: one for, one against", x.vote(0, 1), 0);
        x.house(20, 4);
        due.is("vote: the third takes, too", x.vote(0, 1), 1);
        x.become(0, 40);
        due.is("vote: two for", x.vote(0, 1), 2);
        due.is("vote(0, 0)", x.vote(0, 0), 0);
        due.is("vote(11, 20)", x.vote(11, 20), 0);
        due.is("vote: bricks as they were", x.doorsNow(), 0);
        int[][] wrong = {{-1, 1}, {12, 1}, {0, -1}, {0, 21}, {MAX, 0}, {0, MIN}};
        for (int[] w : wrong) {
            due.is("vote(" + w[0] + ", " + w[1] + ")", x.vote(w[0], w[1]), Due.BEYOND);
        }
    }

    private static void promise25() {
        OvenRings x = walled();
        due.is("cold(0, 0)", x.cold(0, 0), 0);
        for (int cell = 0; cell < 16; cell++) {
            x.heat(cell, 100 + cell);
        }
        due.is("cold(0, 1)", x.cold(0, 1), 100);
        due.is("cold(1, 0): RING 3", x.cold(1, 0), 12);
        due.is("cold(1, 1)", x.cold(1, 1), 84);
        x.heat(7, 3);
        x.heat(9, 3);
        due.is("cold: of two the least", x.cold(0, 0), 7);
        x.image();
        x.door(0, 1);
        x.heat(4, 0);
        due.is("cold(1, 1): what came by a DOOR", x.cold(1, 1), 3);
        due.is("cold(1, 0)", x.cold(1, 0), 7);
        x.restore();
        due.is("cold(60, 1)", x.cold(60, 1), 3);
        due.is("cold(60, 0)", x.cold(60, 0), 7);
        int[][] wrong = {{-1, 0}, {61, 0}, {0, -1}, {0, 2}, {MAX, 0}, {MIN, 1}};
        for (int[] w : wrong) {
            due.is("cold(" + w[0] + ", " + w[1] + ")", x.cold(w[0], w[1]), Due.BEYOND);
        }
    }

    private static void promise26() {
        OvenRings x = walled();
        x.heat(12, 100);
        due.is("keeps(12): 75, 57, 43", x.keeps(12), 3);
        x.heat(13, 1);
        due.is("keeps(13): half is 0", x.keeps(13), Due.NONE);
        x.heat(6, 100);
        due.is("keeps(6): behind bricks", x.keeps(6), Due.NONE);
        x.house(10, 0);
        x.heat(0, 100);
        x.fire(0, 50);
        due.is("keeps(0): 6 are taken, none fed", x.keeps(0), 9);
        due.is("FED as it was", x.count(2), 50);
        x.house(20, 6);
        due.is("keeps(6): 1 is taken", x.keeps(6), 51);
        x.heat(6, 118);
        due.is("keeps(6): by 60", x.keeps(6), 60);
        x.heat(6, 120);
        due.is("keeps(6): not by 60", x.keeps(6), Due.NONE);
        x.heat(6, 3);
        due.is("keeps(6): less than 1", x.keeps(6), 3);
        int[] wrong = {-1, 16, MIN, MAX};
        for (int cell : wrong) {
            due.is("keeps(" + cell + ")", x.keeps(cell), Due.BEYOND);
        }
    }

    private static void promise27() {
        OvenRings x = new OvenRings();
        x.fire(2, 11);
        due.is("fuel(0)", x.fuel(0), 0);
        due.is("fuel(9)", x.fuel(9), 720);
        due.is("fuel(60)", x.fuel(60), 4800);
        x.fire(0, 99);
        due.is("fuel(60) by 99", x.fuel(60), 23760);
        x.fire(2, 99950);
        due.is("fuel: BURNT is held", x.fuel(60), 49);
        int[] wrong = {-1, 61, MIN, MAX};
        for (int n : wrong) {
            due.is("fuel(" + n + ")", x.fuel(n), Due.BEYOND);
        }
    }

    private static void promise28() {
        OvenRings x = walled();
        due.is("glad(5) without HOUSES", x.glad(5), 0);
        x.house(20, 5);
        x.house(0, 6);
        x.house(20, 7);
        x.heat(5, 99);
        x.heat(6, 45);
        x.change(0, 1, 100);
        due.is("glad(0)", x.glad(0), 0);
        due.is("glad(1)", x.glad(1), 2);
        due.is("glad(5): five, and two of 43, 41", x.glad(5), 7);
        due.is("glad(60): of LEAST 20", x.glad(60), 62);
        x.door(0, 1);
        x.heat(0, 90);
        x.change(2, 0, 4);
        due.is("glad(1): 30 came by a DOOR", x.glad(1), 3);
        x.door(0, 0);
        due.is("glad(1): by a brick none", x.glad(1), 2);
        x.change(0, 1, 9998);
        due.is("glad: WARM is held", x.glad(5), 3);
        int[] wrong = {-1, 61, MIN, MAX};
        for (int n : wrong) {
            due.is("glad(" + n + ")", x.glad(n), Due.BEYOND);
        }
    }

    private static void promise29() {
        OvenRings x = walled();
        x.fire(0, 33);
        x.house(0, 0);
        x.house(40, 1);
        odds(x, 0, 1, 1, 2);
        odds(x, 0, 2, 7, 10);
        odds(x, 1, 1, 0, 1);
        x.heat(0, 100);
        odds(x, 0, 1, 1, 1);
        x.heat(0, 152);
        odds(x, 0, 1, 3, 5);
        x.heat(1, 10);
        odds(x, 1, 1, 1, 10);
        x.heat(1, 211);
        odds(x, 1, 1, 9, 10);
        x.heat(0, 182);
        odds(x, 0, 1, 3, 10);
        x.change(0, 1, 9999);
        odds(x, 0, 1, 3, 10);
        due.is("odds(0, 60, 1)", x.odds(0, 60, 1), 10);
        due.is("FED as it was", x.count(2), 33);
        int[][] wrong = {{-1, 1, 0}, {2, 1, 0}, {0, 0, 0}, {0, 61, 0}, {0, 1, -1}, {0, 1, 2}, {MAX, 1, 0}, {0, MIN, 0}};
        for (int[] w : wrong) {
            due.is("odds(" + w[0] + ", " + w[1] + ", " + w[2] + ")", x.odds(w[0], w[1], w[2]), Due.BEYOND);
        }
    }

    private static void odds(OvenRings x, int house, int n, int above, int below) {
        due.is("odds(" + house + ", " + n + ", 0)", x.odds(house, n, 0), above);
        due.is("odds(" + house + ", " + n + ", 1)", x.odds(house, n, 1), below);
    }

    private static void thoughtChangesNothing() {
        OvenRings x = Due.town();
        x.tell(5);
        Due.tape(x, "f+");
        long before = sum(x);
        for (int n = 1; n <= 20; n += 19) {
            x.then(n, 3);
            x.hot(900, 0);
            x.feedFor(1, n);
            x.open(2, n);
            x.doors(5, 900, n);
            x.settle(1, n, 0);
            x.vote(4, n);
            x.cold(n, 1);
            x.keeps(3);
            x.fuel(n);
            x.glad(n);
            x.odds(3, n, 0);
        }
        due.is("what is, behind thoughts", sum(x), before);
        x.check();
        due.is("check empties what waits alone", x.count(8), 0);
    }

    /** All that can be looked at, in one number. */
    private static long sum(OvenRings x) {
        long all = x.doorsNow();
        for (int what = 0; what <= 10; what++) {
            all = all * 31 + x.count(what);
        }
        for (int cell = 0; cell < 16; cell++) {
            all = all * 31 + x.ofCell(cell, 0);
        }
        for (int house = 0; house < x.count(0); house++) {
            for (int what = 0; what < 8; what++) {
                all = all * 31 + x.ofHouse(house, what);
            }
        }
        return all;
    }
}
