/** Promises 38 to 43: images, numbers that wait, counts and what is told. */
public final class TellsTest {
    private static final Due due = new Due("TellsTest");

    public static void main(String[] args) {
        promises38And39();
        notInTheImage();
        promise40();
        promise41();
        promise42();
        promise43();
        due.ends();
    }

    private static void promises38And39() {
        OvenRings x = new OvenRings();
        due.is("restore(), no IMAGE", x.restore(), Due.NONE);
        x.hours(7);
        x.house(35, 2);
        x.change(0, 1, 44);
        x.heat(9, 90);
        x.door(3, 0);
        x.fire(0, 11);
        x.fire(1, 12);
        x.fire(2, 13);
        x.seed(14);
        x.tell(15);
        Due.text(x, 0, "16");
        Due.text(x, 1, "17");
        Due.tape(x, "18");
        due.is("image()", x.image(), 1);
        spoil(x);
        for (int i = 0; i < 2; i++) {
            due.is("restore()", x.restore(), 7);
            asKept(x);
            spoil(x);
        }
        due.is("image() again", x.image(), 2);
        due.is("image() a third time", x.image(), 3);
        x.hours(2);
        due.is("restore() to the later one", x.restore(), 16);
        x.check();
        x.text(0);
        x.image();
        x.tell(1);
        Due.tape(x, "1");
        x.restore();
        due.is("nothing on THE TAPE", x.count(7), 0);
        due.is("nothing that waits", x.count(8), 0);
        x = new OvenRings();
        x.image();
        Due.text(x, 0, "1");
        x.restore();
        due.is("no TEXT", x.law(0, 0, 0, 0), 20);
    }

    private static void spoil(OvenRings x) {
        x.hours(9);
        x.house(11, 9);
        x.become(0, 67);
        x.change(0, 0, 8);
        x.change(0, 1, 1);
        x.heat(9, 1);
        x.door(3, 1);
        x.door(4, 0);
        x.fire(0, 1);
        x.fire(1, 1);
        x.fire(2, 1);
        x.seed(1);
        x.tell(1);
        x.text(0);
        Due.text(x, 0, "f");
        Due.text(x, 1, "d");
    }

    private static void asKept(OvenRings x) {
        int[] counts = {1, 7, 11, 12, 13, x.count(5), 44, 2, 1, 0, 14};
        for (int what = 0; what < counts.length; what++) {
            due.is("kept: count(" + what + ")", x.count(what), counts[what]);
        }
        int[] house = {3, 5, 2, 44};
        for (int what = 0; what < house.length; what++) {
            due.is("kept: ofHouse(0, " + what + ")", x.ofHouse(0, what), house[what]);
        }
        due.is("kept: HEAT", x.ofCell(9, 0), 90);
        due.is("kept: DOORS", x.doorsNow(), 4095 - 8);
        due.is("kept: WANTED", x.law(0, 1, 1, 1), 16);
        due.is("kept: GOES", x.law(1, 1, 1, 1), 17);
        due.is("kept: THE TAPE", x.text(0), 1);
        due.is("kept: what was on it", x.law(0, 1, 1, 1), 18);
        due.is("kept: the number that waits", x.tell(0), 2);
        due.is("kept: its worth", x.check(), 1);
    }

    private static void notInTheImage() {
        OvenRings x = new OvenRings();
        x.house(0, 0);
        x.sheet(0, 8, 3);
        x.voice(0, 0, 1);
        x.image();
        x.sheet(0, 8, 5);
        x.voice(0, 3, 1);
        x.heat(-1, 0);
        x.restore();
        due.is("the SHEET as it is", x.put(0, 4, 1), 1);
        due.is("THE TRACE as it is", x.count(9), 4);
        due.is("what told() tells as it is", x.told(1), 1);
        due.is("how often", x.image(), 2);
    }

    private static void promise40() {
        OvenRings x = new OvenRings();
        for (int i = 1; i <= 20; i++) {
            due.is("tell, the " + i + "th", x.tell(i % 2 == 0 ? Integer.MIN_VALUE : Integer.MAX_VALUE), i);
        }
        due.is("tell: FULL", x.tell(0), Due.FULL);
        due.is("tell: 20 wait", x.count(8), 20);
        x.check();
        due.is("tell, none waiting", x.tell(0), 1);
    }

    private static void promise41() {
        OvenRings x = new OvenRings();
        due.is("check(), none waiting", x.check(), 0);
        x.tell(80);
        x.tell(160);
        x.tell(240);
        due.is("check(): 80, 160, 240", x.check(), 0);
        due.is("check(): none waits then", x.count(8), 0);
        x.tell(80);
        x.tell(161);
        x.tell(0);
        due.is("check(): place 1", x.check(), 2);
        due.is("check(): none waits then, either", x.count(8), 0);
        x.tell(0);
        due.is("check(): place 0", x.check(), 1);
        due.is("check(): HOUR", x.count(1), 0);
        OvenRings y = new OvenRings();
        for (int i = 0; i < 20; i++) {
            x.tell(y.hours(1) + (i == 19 ? 1 : 0));
        }
        due.is("check(): place 19", x.check(), 20);
    }

    private static void promise42() {
        OvenRings x = new OvenRings();
        x.hours(2);
        x.house(0, 0);
        x.house(20, 0);
        x.change(0, 1, 5);
        x.change(1, 1, 60);
        x.fire(0, 3);
        x.fire(1, 4);
        x.fire(2, 6);
        x.heat(0, 500);
        x.heat(15, 7);
        Due.tape(x, "abc");
        x.tell(1);
        x.tell(2);
        x.voice(0, 1, 1);
        x.seed(-1000000001);
        int all = 0;
        for (int cell = 0; cell < 16; cell++) {
            all += x.ofCell(cell, 0);
        }
        int[] counts = {2, 2, 3, 4, 6, all, 65, 3, 2, 2, -1000000001};
        for (int what = 0; what < counts.length; what++) {
            due.is("count(" + what + ")", x.count(what), counts[what]);
        }
        due.is("count(10): no ERROR", x.told(1), 0);
        int[] wrong = {-1, 11, Integer.MIN_VALUE, Integer.MAX_VALUE};
        for (int what : wrong) {
            due.is("count(" + what + ")", x.count(what), Due.BEYOND);
        }
        due.is("count: told", x.told(1), wrong.length);
    }

    private static void promise43() {
        OvenRings x = new OvenRings();
        x.restore();
        x.trace(0);
        x.sheet(0, 8, -1);
        x.house(0, 0);
        x.as(0, 1);
        for (int i = 0; i < 24; i++) {
            x.tell(0);
        }
        int[] due1 = {0, 2, 1, 4, 1};
        for (int k = 1; k <= 5; k++) {
            due.is("told(" + k + ")", x.told(k), due1[k - 1]);
        }
        int[] wrong = {0, 6, -1, Integer.MIN_VALUE, Integer.MAX_VALUE};
        for (int k : wrong) {
            due.is("told(" + k + ")", x.told(k), Due.BEYOND);
        }
        due.is("told(1), those counted, too", x.told(1), wrong.length);
        due.is("told(1) again", x.told(1), wrong.length);
    }
}
