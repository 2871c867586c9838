import java.util.ArrayList;
import java.util.List;

/**
 * Towns that are made alike, two at a time: one is asked for what must be refused, or is only
 * thought, and behind that both must answer alike whatever can be looked at; only what told() tells
 * of an ERROR is one more.
 */
final class Twins {
    /** How the towns are made. */
    interface Maker {
        OvenRings makes();
    }

    private final Maker maker;
    private int differences;

    Twins(Maker maker) {
        this.maker = maker;
    }

    /** Tells what was not as it must be behind a call that answers this; nothing, if all was. */
    String differs(int answer, String name, long... a) {
        OvenRings x = maker.makes();
        OvenRings y = maker.makes();
        StringBuilder all = new StringBuilder();
        differences = 0;
        compares(all, "it answered", Call.of(x, name, a), answer);
        for (int k = 1; k <= 5; k++) {
            compares(all, "told(" + k + ")", x.told(k), y.told(k) + (Due.LOW - k == answer ? 1 : 0));
        }
        List<Integer> looks = looks(x);
        List<Integer> due = looks(y);
        compares(all, "looks", looks.size(), due.size());
        for (int i = 0; i < Math.min(looks.size(), due.size()); i++) {
            compares(all, "look " + i, looks.get(i), due.get(i));
        }
        return all.toString();
    }

    int differences() {
        return differences;
    }

    private void compares(StringBuilder all, String what, int got, int want) {
        if (got != want) {
            differences++;
            all.append(what).append(": ").append(got).append(" for ").append(want).append("; ");
        }
    }

    /**
     * All that a town can be asked; it is used up by this. What may answer an ERROR comes last, as it
     * would hide what an ERROR ahead has changed.
     */
    private static List<Integer> looks(OvenRings x) {
        List<Integer> all = new ArrayList<>();
        state(x, all);
        for (int i = 0; i < x.count(9); i++) {
            all.add(x.trace(i));
        }
        waitsAndTape(x, all);
        all.add(x.restore());
        state(x, all);
        waitsAndTape(x, all);
        all.add(x.image());
        for (int sheet = 0; sheet < 4; sheet++) {
            numbers(x, sheet, all);
            bits(x, sheet, all);
        }
        for (int sheet = 0; sheet < 4; sheet++) {
            length(x, sheet, all);
        }
        return all;
    }

    private static void state(OvenRings x, List<Integer> all) {
        for (int what = 0; what <= 10; what++) {
            all.add(x.count(what));
        }
        all.add(x.doorsNow());
        for (int cell = 0; cell < 16; cell++) {
            all.add(x.ofCell(cell, 0));
        }
        for (int house = 0; house < x.count(0); house++) {
            for (int what = 0; what < 4; what++) {
                all.add(x.ofHouse(house, what));
            }
        }
        for (int use = 0; use < 2; use++) {
            all.add(x.law(use, 7, 3, 1));
            all.add(x.law(use, 40, 2, 19));
        }
    }

    private static void waitsAndTape(OvenRings x, List<Integer> all) {
        all.add(x.check());
        all.add(x.text(0));
        all.add(x.law(0, 7, 3, 1));
        all.add(x.law(0, 40, 2, 19));
    }

    private static void numbers(OvenRings x, int sheet, List<Integer> all) {
        all.add(x.heats(sheet));
        for (int cell = 0; cell < 16; cell++) {
            all.add(x.ofCell(cell, 0));
        }
    }

    /** Of how many bits a SHEET is, seen by what it makes of numbers that are longer. */
    private static void bits(OvenRings x, int sheet, List<Integer> all) {
        all.add(x.put(sheet, 0, 65536 + 5));
        all.add(x.heats(sheet));
        all.add(x.put(sheet, 0, 256 + 5));
        all.add(x.heats(sheet));
        all.add(x.ofCell(0, 0));
    }

    /** How long a SHEET is, and its numbers for which there is no cell. */
    private static void length(OvenRings x, int sheet, List<Integer> all) {
        int n = 0;
        for (int step = 32; step > 0; step /= 2) {
            if (x.move(sheet, 0, sheet, 0, n + step) == n + step) {
                n += step;
            }
        }
        all.add(n);
        for (int from = 16; from < n; from += 16) {
            x.move(sheet, from, sheet, 0, Math.min(16, n - from));
            numbers(x, sheet, all);
        }
    }
}
