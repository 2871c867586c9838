import java.util.ArrayList;
import java.util.HashMap;
import java.util.List;
import java.util.Map;

/** Long runs of drawn calls, on the class and on the model of the document: both must answer alike. */
public final class ModelTest {
    private static final int OBJECTS = 160;
    private static final int CALLS = 512;
    private static final String[] NAMES = {"fhw", "drh"};
    private static final Due due = new Due("ModelTest");
    private static final Map<String, Integer> answered = new HashMap<>();

    private long drawn = 88172645463325252L;
    private OvenRings x;
    private Model model;
    private int calls;
    private final List<String> told = new ArrayList<>();

    public static void main(String[] args) {
        ModelTest test = new ModelTest();
        for (int i = 0; i < OBJECTS && test.runs(i); i++) {
            continue;
        }
        for (String name : Call.names()) {
            due.is(name + " was answered without an ERROR often", answered.getOrDefault(name, 0) > 30 ? 1 : 0, 1);
        }
        due.ends();
    }

    /** A number from 0 on below n. */
    private int draw(int n) {
        drawn ^= drawn << 13;
        drawn ^= drawn >>> 7;
        drawn ^= drawn << 17;
        return (int) Math.floorMod(drawn >>> 16, (long) n);
    }

    private boolean runs(int object) {
        x = new OvenRings();
        model = new Model();
        calls = 0;
        told.clear();
        boolean alike = true;
        if (draw(3) > 0) {
            for (int i = draw(9); i > 0 && alike; i--) {
                alike = asks("house", draw(70), draw(16)) && asks("heat", draw(16), draw(300));
            }
        }
        while (calls < CALLS - 30 && alike) {
            alike = step();
        }
        if (!alike) {
            System.out.println("object " + object + ": " + told);
        }
        return alike;
    }

    private boolean step() {
        switch (draw(14)) {
            case 0:
                return writes();
            case 1:
                return fillsSheetForWhich();
            case 2:
                return tellsAhead();
            case 3:
                return asks("heat", draw(16), draw(draw(2) == 0 ? 120 : 1000));
            case 4:
                return asks("door", draw(12), draw(2));
            case 5:
                return looks();
            default:
                return one();
        }
    }

    /** One call of any name, mostly with arguments that may be, sometimes with ones that may not. */
    private boolean one() {
        String name = Call.names()[draw(Call.names().length)];
        if (name.equals("hours") && draw(3) > 0) {
            return asks("hours", 1 + draw(3));
        }
        int[] most = mostOf(name);
        long[] a = new long[most.length];
        for (int i = 0; i < a.length; i++) {
            a[i] = draw(14) == 0 ? wild(most[i]) : draw(most[i] + 1);
        }
        return asks(name, a);
    }

    private long wild(int most) {
        long[] all = {-1, most + 1L, most, 0, Integer.MIN_VALUE, Integer.MAX_VALUE, 1000, -most};
        return all[draw(all.length)];
    }

    /** How far the arguments of a call go; a little more is given to some, as the wrong is asked for too. */
    private int[] mostOf(String name) {
        int house = Math.max(0, model.houses.size() - 1);
        switch (name) {
            case "heat": return new int[] {15, 999};
            case "ofCell": return new int[] {15, 2};
            case "door": return new int[] {11, 1};
            case "fire": return new int[] {2, 99};
            case "house": return new int[] {69, 15};
            case "ofHouse": return new int[] {house, 7};
            case "change": return new int[] {house, 1, 15};
            case "become": return new int[] {house, 69};
            case "as": return new int[] {house, 6};
            case "feed": return new int[] {Integer.MAX_VALUE - 1, 8};
            case "text": return new int[] {1};
            case "law": return new int[] {1, 200, 3, 24};
            case "hours": return new int[] {60};
            case "loose": return new int[] {40};
            case "then": return new int[] {60, 15};
            case "hot": return new int[] {400, 1};
            case "feedFor": return new int[] {(1 << model.houses.size()) - 1 & draw(256) & draw(256), 30};
            case "open": return new int[] {house, 20};
            case "doors": return new int[] {house, 150, 20};
            case "which": return new int[] {3, 1};
            case "settle": return new int[] {house, 30, 1};
            case "vote": return new int[] {11, 20};
            case "cold": return new int[] {60, 1};
            case "keeps": return new int[] {15};
            case "fuel": case "glad": return new int[] {60};
            case "odds": return new int[] {house, 60, 1};
            case "seed": return new int[] {Integer.MAX_VALUE - 1};
            case "voice": return new int[] {house, 3, 200};
            case "trace": return new int[] {8};
            case "sheet": return new int[] {3, draw(5) * 8, 40};
            case "put": return new int[] {3, 20, 300};
            case "move": return new int[] {3, 8, 3, 8, 8};
            case "heats": case "judge": return new int[] {3};
            case "tell": return new int[] {4000};
            case "count": return new int[] {10};
            case "told": return new int[] {5};
            default: return new int[0];
        }
    }

    private boolean looks() {
        boolean alike = asks("count", draw(11)) && asks("doorsNow") && asks("ofCell", draw(16), draw(3));
        if (alike && !model.houses.isEmpty()) {
            alike = asks("ofHouse", draw(model.houses.size()), draw(8));
        }
        return alike;
    }

    private boolean writes() {
        int use = draw(2);
        StringBuilder s = new StringBuilder();
        writesText(s, use, 0);
        if (draw(2) == 0 && s.length() > 0) {
            String signs = "|&<=>+-*/%!()0129fhwdrx ";
            int at = draw(s.length());
            char sign = signs.charAt(draw(signs.length()));
            switch (draw(4)) {
                case 0: s.setCharAt(at, sign); break;
                case 1: s.insert(at, sign); break;
                case 2: s.deleteCharAt(at); break;
                default: s.setLength(at);
            }
        }
        boolean alike = model.tape.isEmpty() || asks("text", draw(2));
        for (int i = 0; i < s.length() && s.length() <= 50 && alike; i += 8) {
            long word = 0;
            int n = Math.min(8, s.length() - i);
            for (int k = 0; k < n; k++) {
                word |= (long) s.charAt(i + k) << 8 * k;
            }
            alike = asks("feed", word, n);
        }
        alike = alike && asks("text", use);
        for (int i = 0; i < 3 && alike; i++) {
            alike = asks("law", use, draw(400) - 100, draw(24), draw(100));
        }
        return alike && asks("law", use, Integer.MIN_VALUE + draw(2), -1, Integer.MAX_VALUE);
    }

    private void writesText(StringBuilder s, int use, int deep) {
        String signs = "|&<=>++--**/%";
        int parts = 1 + draw(3);
        for (int i = 0; i < parts; i++) {
            if (i > 0) {
                s.append(signs.charAt(draw(signs.length())));
            }
            switch (draw(deep > 6 ? 4 : 6)) {
                case 0: case 1:
                    s.append(NAMES[use].charAt(draw(3)));
                    break;
                case 2:
                    s.append(draw(10));
                    break;
                case 3:
                    s.append(draw(20) == 0 ? draw(100000) : draw(10000));
                    break;
                case 4:
                    s.append('!').append(NAMES[use].charAt(draw(3)));
                    break;
                default:
                    s.append(draw(4) == 0 ? "!(" : "(");
                    writesText(s, use, deep + 1);
                    s.append(')');
            }
        }
    }

    private boolean fillsSheetForWhich() {
        int sheet = draw(4);
        int[] heats = model.heatsWithChanged(draw(12));
        boolean alike = draw(4) > 0 ? asks("sheet", sheet, 16, 16) : asks("sheet", sheet, 8 + 24 * draw(2), 16);
        for (int i = 0; i < 16 && alike; i++) {
            alike = asks("put", sheet, i, heats[i] + (draw(40) == 0 ? 1 : 0));
        }
        return alike && asks("which", sheet, 0) && asks("which", sheet, 1);
    }

    private boolean tellsAhead() {
        boolean alike = draw(3) == 0 || asks("check");
        for (int v : model.heatsAhead(1 + draw(6))) {
            alike = alike && asks("tell", draw(12) == 0 ? v + 1 : v);
        }
        return alike && (draw(3) == 0 || asks("check"));
    }

    private boolean asks(String name, long... a) {
        if (calls >= CALLS) {
            return true;
        }
        calls++;
        long[] taken = Call.taken(name, a);
        String call = Call.text(name, taken);
        int want = model.call(name, taken);
        int got = Call.of(x, name, taken);
        told.add(call + " " + got);
        due.is(call, got, want);
        if (want > Due.LOW) {
            answered.merge(name, 1, Integer::sum);
        }
        return got == want;
    }
}
