/** Promises 12 to 14: THE TAPE, TEXTS and what they give. */
public final class TextsTest {
    private static final Due due = new Due("TextsTest");

    public static void main(String[] args) {
        promise12();
        promise13();
        promise13Faults();
        promise13Long();
        promise14();
        promise14Worth();
        due.ends();
    }

    private static void promise12() {
        OvenRings x = new OvenRings();
        due.is("feed, 3 bytes", x.feed('f' | '-' << 8 | '1' << 16 | 'x' << 24, 3), 3);
        due.is("text: the lowest came first", x.text(0), 1);
        due.is("law: f-1", x.law(0, 30, 0, 0), 29);
        due.is("feed of a word with more above", x.feed(-256L | 'h', 1), 1);
        due.is("text: h alone", x.text(0), 1);
        int[] wrong = {0, 9, -1, Integer.MIN_VALUE, Integer.MAX_VALUE};
        for (int n : wrong) {
            due.is("feed(0, " + n + ")", x.feed(0L, n), Due.BEYOND);
        }
        for (int i = 1; i <= 6; i++) {
            due.is("feed, 8 bytes", x.feed(0x3131313131313131L, 8), 8 * i);
        }
        due.is("feed: FULL by one", x.feed(0L, 3), Due.FULL);
        due.is("feed: 48 stay", x.count(7), 48);
        due.is("feed: up to 50", x.feed(0L, 2), 50);
        due.is("feed: FULL", x.feed(0L, 1), Due.FULL);
        due.is("feed: BEYOND ahead of FULL", x.feed(0L, 9), Due.BEYOND);
        due.is("feed: FULL is told", x.told(4), 2);
        due.is("text of ones", x.text(0), -14);
        due.is("feed: the eighth byte", x.feed(0x6600000000000000L, 8), 8);
        due.is("text: a byte of 0", x.text(0), -10);
        for (int sign = 0; sign < 256; sign++) {
            x.feed(sign, 1);
            boolean is = sign >= '0' && sign <= '9' || sign == 'f' || sign == 'h' || sign == 'w';
            boolean goesOn = sign == '!' || sign == '(';
            due.is("text of byte " + sign, x.text(0), is ? 1 : goesOn ? -11 : -10);
        }
    }

    private static void promise13() {
        OvenRings x = new OvenRings();
        due.is("text, a first one", Due.text(x, 0, "f+1"), 1);
        due.is("text: THE TAPE is empty", x.count(7), 0);
        due.is("text, one in its place", Due.text(x, 0, "f+2"), 1);
        due.is("law of that", x.law(0, 5, 0, 0), 7);
        due.is("text, a fault", Due.text(x, 0, "f+2)"), -13);
        due.is("text: THE TAPE is empty, too", x.count(7), 0);
        due.is("text: the one ahead stays", x.law(0, 5, 0, 0), 7);
        Due.tape(x, "d*3");
        int[] wrong = {-1, 2, Integer.MIN_VALUE, Integer.MAX_VALUE};
        for (int use : wrong) {
            due.is("text(" + use + ")", x.text(use), Due.BEYOND);
        }
        due.is("text: THE TAPE stays", x.count(7), 3);
        due.is("text of what stayed", x.text(1), 1);
        due.is("law of GOES", x.law(1, 9, 0, 0), 27);
        due.is("law of WANTED, as it was", x.law(0, 5, 0, 0), 7);
        due.is("text: a fault is no ERROR", x.told(1), wrong.length);
    }

    private static void promise13Faults() {
        String[] right = {"f", "1234", "0000", "(f<h)<w", "f<h&w<1", "f>1|f<2", "!!!!!f", "(((((f)))))", "!(!(!f))",
            "!!!!!f+!!!!!f", "f*h/w%2", "f-h+w", "!f=0", "(1)", "((f)+(h))*(w)"};
        OvenRings x = new OvenRings();
        for (String s : right) {
            due.is("text " + s, Due.text(x, 0, s), 1);
        }
        x = new OvenRings();
        String[] wrong = {"", "12345", "f f", "ff", "f|", "|f", "f<h<w", "f=h=w", "f<h>w", "!!!!!!f", "((((((f))))))",
            "!(!(!!f))", "(f", "f)", "()", "f+-1", "-1", "f!", "!", "d", "F", "1f", "f1", "f(1)", "(f<h<w)", "f&&h", "12 ",
            "(((((!f)))))", "!!!!!(f)", "((f)", "f<", "1234f"};
        int[] faults = {0, 4, 1, 1, 2, 0, 3, 3, 3, 5, 5,
            5, 2, 1, 1, 2, 0, 1, 1, 0, 0, 1, 1, 1, 4, 2, 2,
            5, 5, 4, 2, 4};
        for (int i = 0; i < wrong.length; i++) {
            due.is("text " + wrong[i], Due.text(x, 0, wrong[i]), -10 - faults[i]);
        }
        due.is("text of GOES, r*d+h", Due.text(x, 1, "r*d+h"), 1);
        due.is("text of GOES, f", Due.text(x, 1, "d+f"), -12);
        due.is("text of GOES, w", Due.text(x, 1, "w"), -10);
        due.is("text of WANTED, r", Due.text(x, 0, "h+r"), -12);
    }

    private static void promise13Long() {
        OvenRings x = new OvenRings();
        due.is("text of 50 bytes", Due.text(x, 0, "10" + "+1".repeat(24)), 1);
        due.is("law of it", x.law(0, 0, 0, 0), 34);
        due.is("text of 50 bytes, too early", Due.text(x, 0, "1+".repeat(25)), -60);
        x = new OvenRings();
        due.is("text that ends with (", Due.text(x, 0, "10" + "+1".repeat(23) + "+("), -60);
        due.is("text of 50 in (", Due.text(x, 0, "f*" + "(".repeat(5) + "1" + "+1".repeat(18) + ")".repeat(5)), 1);
        due.is("law of that", x.law(0, 2, 0, 0), 38);
        due.is("text of one byte in its place", Due.text(x, 0, "h"), 1);
        due.is("law of the one byte", x.law(0, 2, 7, 0), 7);
        x = new OvenRings();
        due.is("text: right signs lean right", Due.text(x, 0, "1-(1-(1-(1-(1-(1)))))"), 1);
        due.is("law of those", x.law(0, 0, 0, 0), 0);
    }

    private static void promise14() {
        OvenRings x = new OvenRings();
        due.is("law without a TEXT", x.law(0, -5, 99999, 0), 20);
        int[][] third = {{0, 0}, {2, 0}, {3, 1}, {11, 3}, {999, 333}, {-9, 0}, {5000, 999}};
        for (int[] t : third) {
            due.is("law(1, " + t[0] + ")", x.law(1, t[0], 7, 7), t[1]);
        }
        Due.text(x, 0, "f*100+h*10+w");
        Due.text(x, 1, "d*100+r*10+h");
        due.is("law: NAMES in order", x.law(0, 0, 4, 2), 42);
        due.is("law: NAMES of GOES in order", x.law(1, 3, 4, 2), 342);
        due.is("law: held at 99", x.law(0, 1, 0, 0), 99);
        due.is("law: 99", x.law(0, 0, 9, 9), 99);
        due.is("law: held at 0", x.law(0, -1, 0, 0), 0);
        due.is("law: held at 999", x.law(1, 10, 0, 0), 999);
        due.is("law of GOES: held at 0", x.law(1, -10, 0, 0), 0);
        int[] wrong = {-1, 2, Integer.MIN_VALUE, Integer.MAX_VALUE};
        for (int use : wrong) {
            due.is("law(" + use + ")", x.law(use, 1, 1, 1), Due.BEYOND);
        }
        due.is("law: BEYOND is told", x.told(1), wrong.length);
    }

    private static void promise14Worth() {
        gives("f-h-w", 50, 20, 10, 20);
        gives("f-(h-w)", 50, 20, 10, 40);
        gives("f/h*w", 50, 20, 10, 20);
        gives("f%h", 50, 20, 10, 10);
        gives("f%h*w+1", 7, 4, 5, 16);
        gives("1+2*3", 0, 0, 0, 7);
        gives("2*3+1", 0, 0, 0, 7);
        gives("f<h", 1, 2, 0, 1);
        gives("f<h", 2, 2, 0, 0);
        gives("f>h", 3, 2, 0, 1);
        gives("f>h", 2, 2, 0, 0);
        gives("f=h", 2, 2, 0, 1);
        gives("f=h", 2, 3, 0, 0);
        gives("f<h+1", 2, 2, 0, 1);
        gives("2-1<2", 0, 0, 0, 1);
        gives("f|h", 0, 7, 0, 1);
        gives("f|h", -7, 0, 0, 1);
        gives("f|h", 0, 0, 0, 0);
        gives("5&2", 0, 0, 0, 1);
        gives("f&h", 4, 0, 0, 0);
        gives("f&h", 0, 4, 0, 0);
        gives("1|0&0", 0, 0, 0, 1);
        gives("0&0|1", 0, 0, 0, 1);
        gives("(1|0)&0", 0, 0, 0, 0);
        gives("!f", 0, 0, 0, 1);
        gives("!f", -3, 0, 0, 0);
        gives("!!f", 9, 0, 0, 1);
        gives("!f*5", 0, 0, 0, 5);
        gives("!f+h", 0, 8, 0, 9);
        gives("!(f+h)", 1, 8, 0, 0);
        gives("f/0+9", 5, 0, 0, 9);
        gives("f%0+9", 5, 0, 0, 9);
        gives("f/2+9", -7, 0, 0, 6);
        gives("f%2+9", -7, 0, 0, 8);
        gives("f*2+9", Integer.MAX_VALUE, 0, 0, 7);
        gives("f-1>0", Integer.MIN_VALUE, 0, 0, 1);
        gives("f+1<0", Integer.MAX_VALUE, 0, 0, 1);
        gives("f/h<0", Integer.MIN_VALUE, -1, 0, 1);
        gives("f%h+5", Integer.MIN_VALUE, -1, 0, 5);
        gives("0099", 0, 0, 0, 99);
        gives("9999/99-3", 0, 0, 0, 98);
        gives("h*10+w", 0, 3, 7, 37);
    }

    private static void gives(String text, int a, int b, int c, int want) {
        OvenRings x = new OvenRings();
        due.is("text " + text, Due.text(x, 0, text), 1);
        due.is(text + " by " + a + ", " + b + ", " + c, x.law(0, a, b, c), want);
    }
}
