/** Promises 15 and 16: HOURS, and HOURS by draws. */
public final class HoursTest {
    private static final Due due = new Due("HoursTest");

    public static void main(String[] args) {
        fire();
        wants();
        doors();
        texts();
        houses();
        coldRing();
        promise15();
        promise16();
        promise16Doors();
        due.ends();
    }

    /** A town in which nothing goes through doors, and without fire. */
    static OvenRings walled() {
        OvenRings x = new OvenRings();
        for (int door = 0; door < 12; door++) {
            x.door(door, 0);
        }
        x.fire(0, 0);
        return x;
    }

    private static void fire() {
        OvenRings x = walled();
        x.fire(0, 20);
        x.heat(1, 990);
        due.is("the fire: HEAT of all", x.hours(1), 3 * 20 + 999);
        due.is("the fire: held", x.ofCell(1, 0), 999);
        due.is("the fire: RING 0 alone", x.ofCell(4, 0), 0);
        due.is("BURNT", x.count(4), 80);
        x.fire(2, 99950);
        x.hours(1);
        due.is("BURNT, held", x.count(4), 99999);
    }

    private static void wants() {
        OvenRings x = new OvenRings();
        x.fire(0, 7);
        x.hours(1);
        due.is("WANTS without a TEXT", x.count(3), 13);
        x.fire(0, 99);
        x.hours(1);
        due.is("WANTS, 0 at least", x.count(3), 0);
        x.fire(0, 0);
        x.fire(1, 9990);
        x.hours(1);
        due.is("WANTS, held", x.count(3), 9999);
        x.fire(0, 7);
        x.fire(1, 150);
        Due.text(x, 0, "h+w");
        x.hours(1);
        due.is("WANTS by h 3 and w 50", x.count(3), 150 + 53 - 7);
        x.hours(1);
        due.is("WANTS by h 4 and w 96", x.count(3), 196 + 99 - 7);
        Due.text(x, 0, "f*2");
        x.hours(1);
        due.is("WANTS by f", x.count(3), 288 + 14 - 7);
        Due.text(x, 0, "h");
        x.fire(0, 0);
        x.fire(1, 0);
        x.hours(18);
        int all = 0;
        for (int h = 6; h < 24; h++) {
            all += h;
        }
        due.is("WANTS by HOURS 6 to 23", x.count(3), all);
        x.hours(1);
        due.is("WANTS in HOUR 24, which is 0 of a day", x.count(3), all);
        x.hours(1);
        due.is("WANTS in HOUR 25", x.count(3), all + 1);
    }

    private static void doors() {
        OvenRings x = new OvenRings();
        x.fire(0, 0);
        x.heat(0, 100);
        x.heat(4, 40);
        x.heat(8, 10);
        x.hours(1);
        due.is("all at once: cell 0", x.ofCell(0, 0), 80);
        due.is("all at once: cell 4", x.ofCell(4, 0), 50);
        due.is("all at once: cell 8", x.ofCell(8, 0), 17);
        due.is("all at once: cell 12", x.ofCell(12, 0), 3);
        x = new OvenRings();
        x.fire(0, 0);
        x.heat(4, 100);
        x.hours(1);
        due.is("nothing goes back", x.ofCell(0, 0), 0);
        due.is("67 of 100 stay", x.ofCell(4, 0), 67);
        due.is("33 go on", x.ofCell(8, 0), 33);
        x = walled();
        x.heat(3, 90);
        x.hours(1);
        due.is("a brick", x.ofCell(3, 0), 90);
        x.door(3, 1);
        x.hours(1);
        due.is("a DOOR", x.ofCell(3, 0), 60);
        due.is("behind the DOOR", x.ofCell(7, 0), 30);
    }

    private static void texts() {
        OvenRings x = new OvenRings();
        x.fire(0, 0);
        Due.text(x, 1, "d");
        x.heat(2, 101);
        x.hours(1);
        due.is("no more than half", x.ofCell(6, 0), 50);
        x = new OvenRings();
        x.fire(0, 0);
        Due.text(x, 1, "r*10+h+1");
        x.hours(5);
        for (int cell = 0; cell < 12; cell += 4) {
            x.heat(cell, 900 - 50 * cell);
        }
        x.hours(1);
        due.is("r 0 and h 5", x.ofCell(0, 0), 900 - 6);
        due.is("r 1 and h 5", x.ofCell(4, 0), 700 + 6 - 16);
        due.is("r 2 and h 5", x.ofCell(8, 0), 500 + 16 - 26);
        due.is("cell 12 less a fourth", x.ofCell(12, 0), 26 - 6);
        x = new OvenRings();
        x.fire(0, 0);
        Due.text(x, 1, "h");
        for (int hour = 0; hour < 26; hour++) {
            x.heat(3, 900);
            x.heat(7, 0);
            x.hours(1);
            due.is("h in HOUR " + hour, x.ofCell(3, 0), 900 - (hour < 24 ? hour : hour - 24));
        }
    }

    private static void houses() {
        OvenRings x = walled();
        x.heat(5, 45);
        x.house(0, 5);
        x.house(20, 5);
        x.house(10, 5);
        x.house(0, 6);
        x.heat(6, 1);
        x.hours(1);
        due.is("what three take", x.ofCell(5, 0), 45 - 2 - 1 - 6);
        due.is("no more than there is", x.ofCell(6, 0), 0);
        due.is("the first was CONTENT, ahead of the others", x.ofHouse(0, 3), 1);
        due.is("the thief was", x.ofHouse(1, 3), 1);
        due.is("the rich one was not", x.ofHouse(2, 3), 0);
        x.heat(5, 41);
        x.hours(1);
        due.is("39 behind what it took", x.ofHouse(0, 3), 1);
        x.heat(5, 202);
        x.hours(1);
        due.is("200 is MOST", x.ofHouse(0, 3), 2);
        x.heat(5, 203);
        x.hours(1);
        due.is("201 is more", x.ofHouse(0, 3), 2);
        x.change(0, 1, 9999);
        x.heat(5, 100);
        x.hours(1);
        due.is("WARM, held", x.ofHouse(0, 3), 9999);
        x = walled();
        x.house(30, 4);
        x.heat(4, 100);
        x.house(54, 8);
        x.heat(8, 30);
        x.hours(5);
        due.is("a widow takes 2", x.ofCell(4, 0), 90);
        due.is("a church takes 1, 2, 3, 4, 5", x.ofCell(8, 0), 15);
        due.is("WARM of the church, of LEAST 16", x.ofHouse(1, 3), 4);
        x = walled();
        x.house(30, 4);
        x.heat(4, 36);
        x.hours(4);
        due.is("a widow with 34, 32, 30, 28 in HOURS 0 to 3", x.ofHouse(0, 3), 1);
    }

    private static void coldRing() {
        OvenRings x = walled();
        x.heat(11, 99);
        x.heat(12, 99);
        x.heat(15, 3);
        x.house(0, 12);
        due.is("HEAT of all", x.hours(1), 99 + 73 + 3);
        due.is("97 less a fourth, behind who takes", x.ofCell(12, 0), 73);
        due.is("RING 2 keeps", x.ofCell(11, 0), 99);
        due.is("a fourth of 3 is 0", x.ofCell(15, 0), 3);
    }

    private static void promise15() {
        OvenRings x = new OvenRings();
        due.is("hours(60)", x.hours(60) > 0 ? 1 : 0, 1);
        due.is("HOUR", x.count(1), 60);
        int[] wrong = {0, -1, 61, Integer.MIN_VALUE, Integer.MAX_VALUE};
        for (int n : wrong) {
            due.is("hours(" + n + ")", x.hours(n), Due.BEYOND);
        }
        due.is("HOUR as it was", x.count(1), 60);
        for (int i = 0; i < 165; i++) {
            x.hours(60);
        }
        x.hours(38);
        due.is("HOUR 9998", x.count(1), 9998);
        x.image();
        due.is("loose(1) to 9999", x.loose(1), x.count(5));
        x.restore();
        int burnt = x.count(4);
        due.is("hours: STATE", x.hours(2), Due.STATE);
        due.is("loose: STATE", x.loose(2), Due.STATE);
        due.is("hours: BEYOND ahead of STATE", x.hours(61), Due.BEYOND);
        due.is("loose: BEYOND ahead of STATE", x.loose(41), Due.BEYOND);
        due.is("STATE changes nothing", x.count(4) - burnt, 0);
        due.is("STATE draws nothing", x.count(10), 1);
        due.is("hours(1) to 9999", x.hours(1), x.count(5));
        due.is("HOUR 9999", x.count(1), 9999);
        due.is("hours(1): STATE", x.hours(1), Due.STATE);
        due.is("STATE is told", x.told(3), 3);
        due.is("thought goes on beyond 9999", x.then(60, 0) >= 0 ? 1 : 0, 1);
    }

    private static void promise16() {
        OvenRings x = new OvenRings();
        due.is("loose(1)", x.loose(1), 56);
        due.is("FED by the draw", x.count(2), 14);
        due.is("z behind two draws", x.count(10), -1770082073);
        due.is("DOOR 10 by the draw 9862832", x.doorsNow(), 4095 - 1024);
        due.is("HOUR", x.count(1), 1);
        due.is("BURNT", x.count(4), 56);
        due.is("loose(40)", x.loose(40), x.count(5));
        due.is("HOUR 41", x.count(1), 41);
        int[] wrong = {0, -1, 41, Integer.MIN_VALUE, Integer.MAX_VALUE};
        for (int n : wrong) {
            due.is("loose(" + n + ")", x.loose(n), Due.BEYOND);
        }
        due.is("HOUR as it was", x.count(1), 41);
    }

    private static void promise16Doors() {
        OvenRings x = new OvenRings();
        int doors = 4095;
        int changed = 0;
        for (int seed = 0; seed < 100; seed++) {
            long first = seed * 1103515245L + 12345L & 0xffffffffL;
            long second = first * 1103515245L + 12345L & 0xffffffffL;
            long draw = second / 256;
            if (draw % 4 == 0) {
                doors ^= 1 << draw / 8 % 12;
                changed++;
            }
            x.seed(seed);
            x.loose(1);
            due.is("FED by seed " + seed, x.count(2), first / 256 % 40);
            due.is("DOORS by seed " + seed, x.doorsNow(), doors);
        }
        due.is("DOORS were changed", changed > 10 ? 1 : 0, 1);
    }
}
