/** What the tests share: the ERRORS, and counting the answers that are not the due ones. */
final class Due {
    static final int LOW = -1000000000;
    static final int BEYOND = LOW - 1;
    static final int NONE = LOW - 2;
    static final int STATE = LOW - 3;
    static final int FULL = LOW - 4;
    static final int KIND = LOW - 5;

    private final String name;
    private int asked;
    private int wrong;

    Due(String name) {
        this.name = name;
    }

    void is(String call, long got, long want) {
        asked++;
        if (got != want) {
            wrong++;
            System.out.println(name + ": " + call + " answered " + got + ", due is " + want);
        }
    }

    /** Prints how it went, and ends with exit code 1 if an answer was wrong. */
    void ends() {
        System.out.println(name + ": " + asked + " asked, " + wrong + " wrong");
        if (wrong != 0 || asked == 0) {
            System.exit(1);
        }
    }

    /** Feeds THE TAPE with the bytes of a text. */
    static void tape(OvenRings x, String text) {
        for (int i = 0; i < text.length(); i++) {
            x.feed(text.charAt(i), 1);
        }
    }

    /** Makes a text the TEXT of a USE: what text() answers. */
    static int text(OvenRings x, int use, String text) {
        tape(x, text);
        return x.text(use);
    }

    /** A town of all KINDS, with some HEAT, one HOUR old. */
    static OvenRings town() {
        OvenRings x = new OvenRings();
        x.hours(1);
        int[] kmAndCell = {4, 0, 14, 9, 25, 12, 31, 5, 40, 1, 53, 13, 62, 6};
        for (int i = 0; i < kmAndCell.length; i += 2) {
            x.house(kmAndCell[i], kmAndCell[i + 1]);
        }
        int[] cellAndHeat = {0, 300, 4, 150, 8, 80, 12, 40, 5, 60, 9, 90, 13, 50, 6, 120};
        for (int i = 0; i < cellAndHeat.length; i += 2) {
            x.heat(cellAndHeat[i], cellAndHeat[i + 1]);
        }
        return x;
    }
}
