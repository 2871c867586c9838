import java.util.ArrayList;
import java.util.Arrays;
import java.util.List;
import java.util.Map;
import java.util.TreeMap;
import java.util.function.ToLongFunction;

/**
 * The document a second time, written from its words and not from the class: slow, with lists, maps
 * and a tree of kinds, so that ModelTest can set the two against each other.
 */
final class Model {
    static final class Refused extends RuntimeException {
        private static final long serialVersionUID = 1L;
        final int k;

        Refused(int k) {
            super(null, null, false, false);
            this.k = k;
        }
    }

    /** A part of a TEXT that has been read: what it is worth with its three NAMES. */
    interface Part {
        int worth(int[] names);
    }

    // ---- kinds, as a tree

    static class House {
        int number;
        int m;
        int cell;
        int warm;
        boolean content;
        Model town;

        int kind() { return 0; }
        int least(int hour) { return 40; }
        int most() { return 200; }
        int takes(int hour) { return 2; }
        int glows(int x) { town.trace.add(10); return x + number; }
        int opens(int x) { town.trace.add(11); return glows(x) * 2; }
        int shuts(int x) { town.trace.add(12); return x - m; }
        int tells(int x) { town.trace.add(13); return opens(x) ^ shuts(x); }
    }

    static class Rich extends House {
        @Override int kind() { return 1; }
        @Override int least(int hour) { return super.least(hour) + m + m; }
        @Override int most() { return 300; }
        @Override int takes(int hour) { return super.takes(hour) * 3; }
        @Override int glows(int x) { town.trace.add(20); return super.glows(x) * 3; }
    }

    static class Thief extends House {
        @Override int kind() { return 2; }
        @Override int least(int hour) { return super.least(hour) / 2; }
        @Override int takes(int hour) { return 1; }
        @Override int opens(int x) { town.trace.add(30); return super.opens(x) - shuts(1); }
    }

    static class Widow extends House {
        @Override int kind() { return 3; }
        @Override int least(int hour) { return super.least(hour) - (hour % 3 == 0 ? 10 : 0); }
        @Override int shuts(int x) { town.trace.add(40); return -super.shuts(x); }
    }

    static final class Baker extends Rich {
        @Override int kind() { return 4; }
        @Override int least(int hour) { return 100; }
        @Override int takes(int hour) { return 0; }
        @Override int tells(int x) { town.trace.add(50); return super.tells(x) - glows(2); }
    }

    static final class Church extends Thief {
        @Override int kind() { return 5; }
        @Override int least(int hour) { return super.least(hour) - m; }
        @Override int most() { return 60; }
        @Override int takes(int hour) { return super.takes(hour) + hour % 5; }
        @Override int opens(int x) { town.trace.add(60); return super.opens(x + 1); }
    }

    static final class Lodger extends Widow {
        @Override int kind() { return 6; }
        @Override int least(int hour) { return super.least(hour) + m; }
        @Override int most() { return super.most() - 50; }
        @Override int shuts(int x) { town.trace.add(70); return super.shuts(x) ^ number; }
        @Override int tells(int x) { town.trace.add(71); return opens(x) - super.tells(x); }
    }

    private House made(int number, int km, int cell, int warm) {
        House[] kinds = {new House(), new Rich(), new Thief(), new Widow(), new Baker(), new Church(), new Lodger()};
        House h = kinds[km / 10];
        h.number = number;
        h.m = km % 10;
        h.cell = cell;
        h.warm = warm;
        h.town = this;
        return h;
    }

    // ---- the state

    int[] heat = new int[16];
    boolean[] isDoor = new boolean[12];
    int fed = 20;
    int wants;
    int burnt;
    int hour;
    int z = 1;
    List<House> houses = new ArrayList<>();
    List<Integer> tape = new ArrayList<>();
    List<Integer> waiting = new ArrayList<>();
    Part[] texts = new Part[2];

    List<Integer> trace = new ArrayList<>();
    private final int[][] sheets = new int[4][];
    private final int[] bits = new int[4];
    private final int[] told = new int[6];
    private Model image;
    private int images;

    Model() {
        for (int d = 0; d < 12; d++) {
            isDoor[d] = true;
        }
    }

    private void becomes(Model other) {
        heat = other.heat.clone();
        isDoor = other.isDoor.clone();
        fed = other.fed;
        wants = other.wants;
        burnt = other.burnt;
        hour = other.hour;
        z = other.z;
        houses = new ArrayList<>();
        for (House h : other.houses) {
            houses.add(made(h.number, h.kind() * 10 + h.m, h.cell, h.warm));
        }
        tape = new ArrayList<>(other.tape);
        waiting = new ArrayList<>(other.waiting);
        texts = other.texts.clone();
    }

    private Model other() {
        Model m = new Model();
        m.becomes(this);
        return m;
    }

    // ---- an HOUR

    private void anHour() {
        for (int c = 0; c <= 3; c++) {
            heat[c] = hold(heat[c] + fed, 0, 999);
        }
        burnt = hold(burnt + 4 * fed, 0, 99999);
        wants = hold(wants + given(0, fed, hour % 24, wants % 100) - fed, 0, 9999);
        int[] then = heat.clone();
        for (int c = 0; c <= 11; c++) {
            int more = then[c] - then[c + 4];
            if (isDoor[c] && more > 0) {
                int g = Math.min(given(1, more, c / 4, hour % 24), more / 2);
                heat[c] -= g;
                heat[c + 4] += g;
            }
        }
        for (House h : houses) {
            heat[h.cell] = heat[h.cell] - taken(h);
            h.content = isContent(h);
            h.warm = hold(h.warm + (h.content ? 1 : 0), 0, 9999);
        }
        for (int c = 12; c <= 15; c++) {
            heat[c] = heat[c] - heat[c] / 4;
        }
        hour++;
    }

    private int taken(House h) {
        return h.takes(hour) > heat[h.cell] ? heat[h.cell] : h.takes(hour);
    }

    private boolean isContent(House h) {
        return h.least(hour) <= heat[h.cell] && heat[h.cell] <= h.most();
    }

    private static int hold(int v, int least, int most) {
        return v < least ? least : v > most ? most : v;
    }

    private int given(int use, int a, int b, int c) {
        int v = use == 0 ? 20 : a / 3;
        if (texts[use] != null) {
            v = texts[use].worth(new int[] {a, b, c});
        }
        return hold(v, 0, use == 0 ? 99 : 999);
    }

    private Model after(int n) {
        Model m = other();
        for (int i = 0; i < n; i++) {
            m.anHour();
        }
        return m;
    }

    private Model afterChanged(int doors, int n) {
        Model m = other();
        for (int d = 0; d < 12; d++) {
            m.isDoor[d] ^= (doors >> d & 1) == 1;
        }
        return m.after(n);
    }

    private int allHeat() {
        int all = 0;
        for (int v : heat) {
            all += v;
        }
        return all;
    }

    private int allWarm() {
        int all = 0;
        for (House h : houses) {
            all += h.warm;
        }
        return all;
    }

    // ---- TEXTS: every way in which a TEXT may be read, so that nothing hangs on one way of reading

    static Part read(String s, String names) {
        return rule('T', s, 0, 0, names).get(s.length());
    }

    static int fault(String s, String names) {
        for (int n = 1; n <= s.length(); n++) {
            if (!goesOn(s.substring(0, n), names)) {
                return n - 1;
            }
        }
        return s.length();
    }

    private static boolean goesOn(String start, String names) {
        String closed = "";
        for (int k = 0; k <= 5; k++) {
            if (read(start + closed, names) != null || read(start + "0" + closed, names) != null) {
                return true;
            }
            closed += ")";
        }
        return false;
    }

    /** All places where a part that begins at a place may end, with what it is worth. */
    private static Map<Integer, Part> rule(char rule, String s, int from, int open, String names) {
        switch (rule) {
            case 'T':
                return run("|", 'A', s, from, open, names, 99);
            case 'A':
                return run("&", 'B', s, from, open, names, 99);
            case 'B':
                return run("<=>", 'S', s, from, open, names, 1);
            case 'S':
                return run("+-", 'P', s, from, open, names, 99);
            case 'P':
                return run("*/%", 'Q', s, from, open, names, 99);
            default:
                return part(s, from, open, names);
        }
    }

    private static Map<Integer, Part> run(String signs, char of, String s, int from, int open, String names, int most) {
        Map<Integer, Part> ends = new TreeMap<>(rule(of, s, from, open, names));
        Map<Integer, Part> last = new TreeMap<>(ends);
        for (int i = 0; i < most && !last.isEmpty(); i++) {
            Map<Integer, Part> further = new TreeMap<>();
            for (Map.Entry<Integer, Part> e : last.entrySet()) {
                int at = e.getKey();
                if (at < s.length() && signs.indexOf(s.charAt(at)) >= 0) {
                    Part left = e.getValue();
                    char sign = s.charAt(at);
                    rule(of, s, at + 1, open, names).forEach((end, right) ->
                        further.put(end, v -> worked(sign, left.worth(v), right.worth(v))));
                }
            }
            ends.putAll(further);
            last = further;
        }
        return ends;
    }

    private static Map<Integer, Part> part(String s, int from, int open, String names) {
        Map<Integer, Part> ends = new TreeMap<>();
        for (int n = 1; n <= 4 && from + n <= s.length(); n++) {
            String digits = s.substring(from, from + n);
            if (digits.matches("[0-9]+")) {
                int value = Integer.parseInt(digits);
                ends.put(from + n, v -> value);
            }
        }
        if (from >= s.length()) {
            return ends;
        }
        char sign = s.charAt(from);
        int name = names.indexOf(sign);
        if (name >= 0) {
            ends.put(from + 1, v -> v[name]);
        }
        if (sign == '!' && open < 5) {
            part(s, from + 1, open + 1, names).forEach((end, of) -> ends.put(end, v -> of.worth(v) == 0 ? 1 : 0));
        }
        if (sign == '(' && open < 5) {
            rule('T', s, from + 1, open + 1, names).forEach((end, of) -> {
                if (end < s.length() && s.charAt(end) == ')') {
                    ends.put(end + 1, of);
                }
            });
        }
        return ends;
    }

    private static int worked(char sign, int a, int b) {
        switch (sign) {
            case '|': return a == 0 && b == 0 ? 0 : 1;
            case '&': return a == 0 || b == 0 ? 0 : 1;
            case '<': return a < b ? 1 : 0;
            case '=': return a == b ? 1 : 0;
            case '>': return a > b ? 1 : 0;
            case '+': return (int) ((long) a + b);
            case '-': return (int) ((long) a - b);
            case '*': return (int) ((long) a * b);
            case '/': return b == 0 ? 0 : (int) ((long) a / b);
            case '%': return b == 0 ? 0 : (int) ((long) a % b);
            default: throw new IllegalStateException();
        }
    }

    // ---- the calls

    /** A call by its name; ERRORS are counted here. */
    int call(String name, long[] a) {
        try {
            return answer(name, a);
        } catch (Refused r) {
            told[r.k]++;
            return -1000000000 - r.k;
        }
    }

    private static void need(boolean is, int k) {
        if (!is) {
            throw new Refused(k);
        }
    }

    private static void in(long v, long least, long most) {
        need(v >= least && v <= most, 1);
    }

    private House houseAt(long i) {
        in(i, 0, houses.size() - 1);
        return houses.get((int) i);
    }

    private int answer(String name, long[] a) {
        int p = a.length > 0 ? (int) a[0] : 0;
        int q = a.length > 1 ? (int) a[1] : 0;
        int r = a.length > 2 ? (int) a[2] : 0;
        switch (name) {
            case "heat": case "ofCell": case "door": case "doorsNow": case "fire":
                return ofTown(name, p, q);
            case "house": case "ofHouse": case "change": case "become": case "as":
                return ofHouses(name, p, q, r);
            case "feed": case "text": case "law":
                return ofTexts(name, a, p, q, r);
            case "hours": case "loose":
                return ofHours(name, p);
            case "then": case "hot": case "cold": case "keeps": case "fuel": case "glad": case "odds":
                return ofThought(name, p, q, r);
            case "feedFor": case "open": case "doors": case "which": case "settle": case "vote":
                return ofChange(name, p, q, r);
            case "sheet": case "put": case "move": case "heats": case "judge":
                return ofSheets(name, a, p, q, r);
            default:
                return ofRest(name, p, q, r);
        }
    }

    private int ofTown(String name, int p, int q) {
        int was = 0;
        switch (name) {
            case "heat":
                in(p, 0, 15);
                in(q, 0, 999);
                was = heat[p];
                heat[p] = q;
                return was;
            case "ofCell":
                in(p, 0, 15);
                in(q, 0, 2);
                for (House h : houses) {
                    was += h.cell == p ? 1 << h.number : 0;
                }
                return q == 0 ? heat[p] : q == 1 ? p / 4 : was;
            case "door":
                in(p, 0, 11);
                in(q, 0, 1);
                was = isDoor[p] ? 1 : 0;
                isDoor[p] = q == 1;
                return was;
            case "doorsNow":
                for (int d = 0; d < 12; d++) {
                    was += isDoor[d] ? 1 << d : 0;
                }
                return was;
            default:
                in(p, 0, 2);
                in(q, 0, p == 0 ? 99 : p == 1 ? 9999 : 99999);
                was = p == 0 ? fed : p == 1 ? wants : burnt;
                fed = p == 0 ? q : fed;
                wants = p == 1 ? q : wants;
                burnt = p == 2 ? q : burnt;
                return was;
        }
    }

    private int ofHouses(String name, int p, int q, int r) {
        if (name.equals("house")) {
            in(p, 0, 69);
            in(q, 0, 15);
            need(houses.size() < 8, 4);
            houses.add(made(houses.size(), p, q, 0));
            return houses.size() - 1;
        }
        House h = houseAt(p);
        int was;
        switch (name) {
            case "ofHouse":
                in(q, 0, 7);
                int[] all = {h.kind(), h.m, h.cell, h.warm, h.least(hour), h.most(), taken(h), isContent(h) ? 1 : 0};
                return all[q];
            case "change":
                in(q, 0, 1);
                in(r, 0, q == 0 ? 15 : 9999);
                was = q == 0 ? h.cell : h.warm;
                h.cell = q == 0 ? r : h.cell;
                h.warm = q == 1 ? r : h.warm;
                return was;
            case "become":
                in(q, 0, 69);
                houses.set(p, made(p, q, h.cell, h.warm));
                return h.kind();
            default:
                in(q, 0, 6);
                Class<?>[] kinds = {House.class, Rich.class, Thief.class, Widow.class, Baker.class, Church.class,
                    Lodger.class};
                need(kinds[q].isInstance(h), 5);
                return h.m;
        }
    }

    private int ofTexts(String name, long[] a, int p, int q, int r) {
        switch (name) {
            case "feed":
                in(q, 1, 8);
                need(tape.size() + q <= 50, 4);
                long word = a[0];
                for (int i = 0; i < q; i++) {
                    tape.add((int) Math.floorMod(word, 256L));
                    word = Math.floorDiv(word, 256L);
                }
                return tape.size();
            case "text":
                in(p, 0, 1);
                StringBuilder s = new StringBuilder();
                for (int b : tape) {
                    s.append((char) b);
                }
                tape.clear();
                String names = p == 0 ? "fhw" : "drh";
                Part text = read(s.toString(), names);
                if (text == null) {
                    return -10 - fault(s.toString(), names);
                }
                texts[p] = text;
                return 1;
            default:
                in(p, 0, 1);
                return given(p, q, r, (int) a[3]);
        }
    }

    private int ofHours(String name, int n) {
        in(n, 1, name.equals("hours") ? 60 : 40);
        need(hour + n <= 9999, 3);
        for (int i = 0; i < n; i++) {
            if (name.equals("loose")) {
                fed = drawn() % 40;
                int d = drawn();
                if (d % 4 == 0) {
                    isDoor[d / 8 % 12] ^= true;
                }
            }
            anHour();
        }
        return allHeat();
    }

    private int drawn() {
        z = (int) ((long) z * 1103515245L + 12345L);
        return z >>> 8;
    }

    private int ofThought(String name, int p, int q, int r) {
        switch (name) {
            case "then":
                in(p, 0, 60);
                in(q, 0, 15);
                return after(p).heat[q];
            case "hot":
                in(p, 1, 999);
                in(q, 0, 1);
                for (int n = 0; n <= 60; n++) {
                    int[] v = after(n).heat;
                    for (int c = 0; c < 16; c++) {
                        if (v[c] >= p) {
                            return q == 0 ? n : c;
                        }
                    }
                }
                throw new Refused(2);
            case "cold":
                in(p, 0, 60);
                in(q, 0, 1);
                int[] v = after(p).heat;
                int best = best(16, c -> -v[c]);
                return q == 0 ? best : v[best];
            case "keeps":
                in(p, 0, 15);
                Model m = other();
                m.fed = 0;
                for (int n = 0; n <= 60; n++) {
                    if (m.after(n).heat[p] < heat[p] / 2) {
                        return n;
                    }
                }
                throw new Refused(2);
            case "fuel":
                in(p, 0, 60);
                return after(p).burnt - burnt;
            case "glad":
                in(p, 0, 60);
                return after(p).allWarm() - allWarm();
            default:
                houseAt(p);
                in(q, 1, 60);
                in(r, 0, 1);
                int above = 0;
                for (int f = 0; f <= 90; f += 10) {
                    above += contentBy(f, q).get(p) ? 1 : 0;
                }
                int below = 10;
                for (int d = 10; d > 1; d--) {
                    if (above % d == 0 && below % d == 0) {
                        above /= d;
                        below /= d;
                    }
                }
                return r == 0 ? above : below;
        }
    }

    private List<Boolean> contentBy(int f, int n) {
        Model m = other();
        m.fed = f;
        List<Boolean> all = new ArrayList<>();
        for (House h : m.after(n).houses) {
            all.add(h.content);
        }
        return all;
    }

    /** The place of the most; of several the least. */
    private static int best(int n, ToLongFunction<Integer> worth) {
        int best = 0;
        for (int i = 1; i < n; i++) {
            if (worth.applyAsLong(i) > worth.applyAsLong(best)) {
                best = i;
            }
        }
        return best;
    }

    private int ofChange(String name, int p, int q, int r) {
        switch (name) {
            case "feedFor":
                in(p, 0, (1 << houses.size()) - 1);
                in(q, 1, 30);
                for (int f = 0; f <= 99; f++) {
                    List<Boolean> content = contentBy(f, q);
                    boolean all = true;
                    for (int i = 0; i < houses.size(); i++) {
                        all &= (p >> i & 1) == 0 || content.get(i);
                    }
                    if (all) {
                        return f;
                    }
                }
                throw new Refused(2);
            case "open":
                houseAt(p);
                in(q, 0, 20);
                int door = best(12, d -> afterChanged(1 << d, q).houses.get(p).warm);
                int warm = afterChanged(1 << door, q).houses.get(p).warm;
                return warm > after(q).houses.get(p).warm ? door : -1;
            case "doors":
                House told = houseAt(p);
                in(q, 0, 999);
                in(r, 0, 20);
                for (int many = 0; many <= 2; many++) {
                    for (int set = 0; set < 4096; set++) {
                        if (Integer.bitCount(set) == many && afterChanged(set, r).heat[told.cell] >= q) {
                            return set;
                        }
                    }
                }
                throw new Refused(2);
            case "which":
                in(p, 0, 3);
                in(q, 0, 1);
                need(sheets[p] != null && sheets[p].length == 16, 2);
                int set = 0;
                for (int d = 0; d < 12; d++) {
                    set += Arrays.equals(afterChanged(1 << d, 1).heat, sheets[p]) ? 1 << d : 0;
                }
                return q == 0 ? set : Integer.bitCount(set);
            case "settle":
                houseAt(p);
                in(q, 0, 30);
                in(r, 0, 1);
                int cell = best(16, c -> warmIn(p, c, q));
                return r == 0 ? cell : warmIn(p, cell, q);
            default:
                in(p, 0, 11);
                in(q, 0, 20);
                Model as = after(q);
                Model changed = afterChanged(1 << p, q);
                int votes = 0;
                for (int i = 0; i < houses.size(); i++) {
                    int more = changed.houses.get(i).warm - as.houses.get(i).warm;
                    votes += more > 0 ? 1 : more < 0 ? -1 : 0;
                }
                return votes;
        }
    }

    private int warmIn(int house, int cell, int n) {
        Model m = other();
        m.houses.get(house).cell = cell;
        return m.after(n).houses.get(house).warm;
    }

    private int ofSheets(String name, long[] a, int p, int q, int r) {
        in(p, 0, 3);
        if (name.equals("sheet")) {
            need(q == 0 || q == 8 || q == 16 || q == 32, 1);
            if (q == 0) {
                sheets[p] = null;
                return 1;
            }
            need(r >= 0, 3);
            need(r <= 40, 1);
            sheets[p] = new int[r];
            bits[p] = q;
            return 1;
        }
        if (name.equals("move")) {
            return moved(p, q, r, a[3], (int) a[4]);
        }
        int[] row = sheets[p];
        need(row != null, 2);
        switch (name) {
            case "put":
                in(q, 0, row.length - 1);
                row[q] = r << 32 - bits[p] >> 32 - bits[p];
                return 1;
            case "heats":
                int n = 0;
                while (n < 16 && n < row.length && row[n] >= 0 && row[n] <= 999) {
                    heat[n] = row[n];
                    n++;
                }
                return n;
            default:
                for (int i = 0; i < Math.max(row.length, houses.size()); i++) {
                    if (i >= row.length || i >= houses.size() || houses.get(i).cell != row[i]) {
                        return i;
                    }
                }
                return -1;
        }
    }

    private int moved(int p, int i, int other, long j, int n) {
        in(other, 0, 3);
        need(sheets[p] != null && sheets[other] != null, 2);
        need(bits[p] == bits[other], 5);
        in(n, 0, Integer.MAX_VALUE);
        in(i, 0, (long) sheets[p].length - n);
        in(j, 0, (long) sheets[other].length - n);
        int[] as = sheets[p].clone();
        for (int k = 0; k < n; k++) {
            sheets[other][(int) j + k] = as[i + k];
        }
        return n;
    }

    private int ofRest(String name, int p, int q, int r) {
        switch (name) {
            case "seed":
                int was = z;
                z = p;
                return was;
            case "voice":
                House h = houseAt(p);
                in(q, 0, 3);
                trace.clear();
                return q == 0 ? h.glows(r) : q == 1 ? h.opens(r) : q == 2 ? h.shuts(r) : h.tells(r);
            case "trace":
                need(p >= 0 && p < trace.size() && p < 40, 2);
                return trace.get(p);
            case "image":
                image = other();
                return ++images;
            case "restore":
                need(image != null, 2);
                becomes(image);
                return hour;
            case "tell":
                need(waiting.size() < 20, 4);
                waiting.add(p);
                return waiting.size();
            case "check":
                int place = 0;
                for (int i = waiting.size(); i >= 1; i--) {
                    place = after(i).allHeat() == waiting.get(i - 1) ? place : i;
                }
                waiting.clear();
                return place;
            case "count":
                in(p, 0, 10);
                int[] all = {houses.size(), hour, fed, wants, burnt, allHeat(), allWarm(), tape.size(), waiting.size(),
                    Math.min(trace.size(), 40), z};
                return all[p];
            case "told":
                in(p, 1, 5);
                return told[p];
            default:
                throw new IllegalStateException(name);
        }
    }

    /** Numbers that would pass check() now. */
    List<Integer> heatsAhead(int n) {
        List<Integer> all = new ArrayList<>();
        for (int i = 1; i <= n; i++) {
            all.add(after(i).allHeat());
        }
        return all;
    }

    /** HEAT of the cells behind one HOUR, a DOOR being changed now. */
    int[] heatsWithChanged(int door) {
        return afterChanged(1 << door, 1).heat;
    }
}
