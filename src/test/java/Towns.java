/** Towns that the tests of what is refused are made of. */
final class Towns {
    private Towns() {
    }

    /**
     * One in which nothing is as at first: an IMAGE that is not as it is now, a TRACE, THE TAPE,
     * numbers that wait and are right, SHEETS of all bits (3 is missing), every ERROR told.
     */
    static OvenRings full() {
        OvenRings x = Due.town();
        errors(x);
        ahead(x);
        x.tell(4);
        Due.tape(x, "h-");
        x.image();
        x.check();
        changed(x);
        sheets(x);
        OvenRings later = Due.town();
        ahead(later);
        changed(later);
        for (int i = 0; i < 3; i++) {
            x.tell(later.hours(1));
        }
        Due.tape(x, "w*2");
        return x;
    }

    private static void ahead(OvenRings x) {
        Due.text(x, 0, "f+h%5");
        Due.text(x, 1, "d/4+r");
        x.door(3, 0);
    }

    private static void changed(OvenRings x) {
        x.text(0);
        x.door(9, 0);
        x.fire(0, 13);
        x.fire(1, 250);
        x.fire(2, 4000);
        x.seed(77);
        x.heat(11, 123);
        for (int house = 0; house < 7; house++) {
            x.change(house, 1, 20 + house);
        }
        x.become(0, 7);
        x.voice(6, 3, 5);
    }

    private static void sheets(OvenRings x) {
        int[] lengths = {20, 16, 40};
        for (int sheet = 0; sheet < 3; sheet++) {
            int last = lengths[sheet] - 1;
            x.sheet(sheet, 8 << sheet, last + 1);
            x.put(sheet, 0, 60 + sheet);
            x.put(sheet, 1, 70);
            x.put(sheet, 15, 90);
            x.put(sheet, last / 3 * 2, 100);
            x.put(sheet, last, 110);
        }
    }

    /** These come first, as an ERROR that changes something would hide it from the next ones. */
    private static void errors(OvenRings x) {
        x.heat(-1, 0);
        x.trace(-1);
        x.sheet(0, 8, -1);
        x.as(0, 1);
        Due.tape(x, "1".repeat(51));
        x.text(0);
    }

    /** HOUR is 9999 less what is told. */
    static OvenRings late(int less) {
        OvenRings x = new OvenRings();
        x.house(31, 5);
        x.house(20, 8);
        x.heat(5, 900);
        for (int left = 9999 - less; left > 0; left -= 60) {
            x.hours(Math.min(left, 60));
        }
        x.image();
        x.heat(7, 70);
        x.voice(0, 1, 2);
        x.tell(3);
        Due.tape(x, "fh");
        x.sheet(1, 16, 3);
        return x;
    }

    static OvenRings withHouses(int n) {
        OvenRings x = new OvenRings();
        for (int house = 0; house < n; house++) {
            x.house(house * 9, 8 + house);
            x.heat(8 + house, 60);
        }
        return x;
    }
}
