import java.io.IOException;

/** Sentences of Terms 2 and promises 12 to 14: the edges of THE TAPE, of TEXTS and of what they give. */
public final class TextEdgesTest {
    private static final int T = Sentences.TERMS;
    private static final int MIN = Integer.MIN_VALUE;
    private static final int MAX = Integer.MAX_VALUE;
    private static final String[] NAMES = {"fhw", "drh"};
    private static Sentences due;

    public static void main(String[] args) throws IOException {
        due = new Sentences("TextEdgesTest");
        tape();
        signsOfEitherUse();
        manyParts();
        oneComparing();
        number();
        names();
        noBlanks();
        fiveAreOpen();
        fiveAreOpenInAllMixes();
        closedAreNotOpen();
        intsWrap();
        cutAndRest();
        oneOrZero();
        faultIsTheFirstByte();
        faultIsHowManyThereAre();
        faultOfFifty();
        lowestBytes();
        tapeIsEmptyThen();
        oneAheadStays();
        namesInOrder();
        heldOfWanted();
        heldOfGoes();
        withoutText();
        due.ends();
    }

    private static void isText(int use, String text) {
        due.is("text " + text, Due.text(new OvenRings(), use, text), 1);
    }

    private static void faultIs(int use, String text, int fault) {
        due.is("fault of \"" + text + "\"", Due.text(new OvenRings(), use, text), -10 - fault);
    }

    /** What a TEXT of WANTED gives; it must be 0 to 99. */
    private static void gives(String text, int a, int b, int c, int want) {
        OvenRings x = new OvenRings();
        due.is("text " + text, Due.text(x, 0, text), 1);
        due.is(text + " by " + a + ", " + b + ", " + c, x.law(0, a, b, c), want);
    }

    private static void tape() {
        due.of(T, "TEXTS are read from THE TAPE (bytes, at most 50)");
        OvenRings x = new OvenRings();
        for (int i = 1; i <= 50; i++) {
            due.is(x, i, "feed", 255, 1);
        }
        due.is(x, Due.FULL, "feed", 255, 1);
        due.is(x, 50, "count", 7);
        OvenRings y = new OvenRings();
        for (int i = 1; i <= 6; i++) {
            due.is(y, 8L * i, "feed", -1, 8);
        }
        for (int n = 8; n > 2; n--) {
            due.is(y, Due.FULL, "feed", -1, n);
            due.is(y, 48, "count", 7);
        }
        due.is(y, 50, "feed", -1, 2);
        isText(0, "1+".repeat(24) + "f");
        isText(0, "12+" + "1+".repeat(23) + "f");
        isText(0, "(1+" + "1+".repeat(22) + "!f)");
    }

    /** After a part that is whole, these go on and nothing else does; ahead of one, these. */
    private static void signsOfEitherUse() {
        due.of(T, "T: A { | A }. A: B { & B }. B: S, or S < S, S = S, S > S. S: P { + P, - P }. P: Q { * Q, / Q, % Q }.");
        for (int use = 0; use < 2; use++) {
            for (int sign = 0; sign < 256; sign++) {
                String s = String.valueOf((char) sign);
                boolean joins = "|&<=>+-*/%".indexOf(sign) >= 0;
                faultIs(use, "1234" + s, joins ? 5 : 4);
                faultIs(use, "(1234" + s + "?", joins || sign == ')' ? 6 : 5);
                boolean begins = "0123456789!(".indexOf(sign) >= 0 || NAMES[use].indexOf(sign) >= 0;
                faultIs(use, "1+" + s + "?", begins ? 3 : 2);
                faultIs(use, s + s + "?", begins && "0123456789!(".indexOf(sign) >= 0 ? 2 : begins ? 1 : 0);
            }
        }
    }

    private static void manyParts() {
        due.of(T, "T: A { | A }.");
        String[] signs = {"|", "&", "+", "-", "*", "/", "%"};
        for (String s : signs) {
            isText(0, "1" + (s + "1").repeat(24));
            faultIs(0, "1" + (s + "1").repeat(23) + s + s, 48);
            faultIs(0, s + "1", 0);
            faultIs(0, "1" + s, 2);
        }
        isText(0, "1|2&3<4+5*!6/7%8-9|0=0");
    }

    private static void oneComparing() {
        due.of(T, "B: S, or S < S, S = S, S > S.");
        String[] signs = {"<", "=", ">"};
        for (String one : signs) {
            isText(0, "f" + one + "h");
            faultIs(0, one + "h", 0);
            faultIs(0, "f" + one, 2);
            for (String other : signs) {
                faultIs(0, "f" + one + "h" + other + "w", 3);
                faultIs(0, "f" + one + other + "w", 2);
                faultIs(0, "(f" + one + "h" + other + "w)", 4);
                isText(0, "(f" + one + "h)" + other + "w");
                isText(0, "f" + one + "(h" + other + "w)");
                isText(0, "f" + one + "h&f" + other + "w");
                isText(0, "f" + one + "h|f" + other + "w");
            }
        }
    }

    private static void number() {
        due.of(T, "Q: a NUMBER of 1 to 4 digits, a NAME, ! Q, ( T ).");
        gives("0", 0, 0, 0, 0);
        gives("9", 0, 0, 0, 9);
        gives("99", 0, 0, 0, 99);
        gives("099", 0, 0, 0, 99);
        gives("0000", 0, 0, 0, 0);
        gives("0007", 0, 0, 0, 7);
        gives("9999-9900", 0, 0, 0, 99);
        gives("1000/100", 0, 0, 0, 10);
        gives("1234=1233+1", 0, 0, 0, 1);
        faultIs(0, "", 0);
        faultIs(0, "00000", 4);
        faultIs(0, "12345", 4);
        faultIs(0, "1+12345", 6);
        faultIs(0, "(12345)", 5);
        faultIs(0, "!12345", 5);
        faultIs(0, "1234(", 4);
        faultIs(0, "1234!", 4);
        for (char digit = '0'; digit <= '9'; digit++) {
            gives("f+" + digit, 0, 0, 0, digit - '0');
        }
        faultIs(0, "/", 0);
        faultIs(0, ":", 0);
    }

    private static void names() {
        due.of(T, "0 WANTED, NAMES f FED, h the rest of HOUR by 24, w the rest of WANTS by 100");
        for (int use = 0; use < 2; use++) {
            for (int sign = 0; sign < 256; sign++) {
                if (sign >= '0' && sign <= '9' || sign == '!' || sign == '(') {
                    continue;
                }
                String s = String.valueOf((char) sign);
                if (NAMES[use].indexOf(sign) >= 0) {
                    isText(use, s);
                    isText(use, "!" + s);
                    faultIs(use, s + s, 1);
                    faultIs(use, s + "1", 1);
                    faultIs(use, "1" + s, 1);
                } else {
                    faultIs(use, s, 0);
                }
            }
        }
    }

    private static void noBlanks() {
        due.of(T, "No blanks.");
        faultIs(0, " ", 0);
        faultIs(0, " f", 0);
        faultIs(0, "f ", 1);
        faultIs(0, "f +1", 1);
        faultIs(0, "f+ 1", 2);
        faultIs(0, "! f", 1);
        faultIs(0, "( f)", 1);
        faultIs(0, "(f )", 2);
        faultIs(0, "1 2", 1);
        faultIs(0, "f\n", 1);
        faultIs(0, "f\t", 1);
        faultIs(0, "f\0", 1);
    }

    private static void fiveAreOpen() {
        due.of(T, "At most 5 of ! and ( are open at once.");
        for (int open = 1; open <= 8; open++) {
            String left = "(".repeat(open);
            if (open <= 5) {
                isText(0, left + "f" + ")".repeat(open));
                isText(0, "!".repeat(open) + "f");
                faultIs(0, left, open);
                faultIs(0, left + "f", open + 1);
                faultIs(0, left + "f" + ")".repeat(open + 1), 2 * open + 1);
                faultIs(0, "!".repeat(open), open);
            } else {
                faultIs(0, left + "f" + ")".repeat(open), 5);
                faultIs(0, "!".repeat(open) + "f", 5);
            }
        }
        gives("!!!!!f", 0, 0, 0, 1);
        gives("!!!!f", 5, 0, 0, 1);
        gives("(((((f)))))", 44, 0, 0, 44);
    }

    private static void fiveAreOpenInAllMixes() {
        due.of(T, "At most 5 of ! and ( are open at once.");
        for (int mix = 0; mix < 32; mix++) {
            StringBuilder left = new StringBuilder();
            StringBuilder right = new StringBuilder();
            for (int i = 0; i < 5; i++) {
                left.append((mix >> i & 1) == 0 ? '!' : '(');
                right.append((mix >> i & 1) == 0 ? "" : ")");
            }
            isText(1, left + "d" + right);
            isText(1, left + "d" + right + "+" + left + "d" + right);
            faultIs(1, left + "!d" + right, 5);
            faultIs(1, left + "(d)" + right, 5);
        }
    }

    private static void closedAreNotOpen() {
        due.of(T, "At most 5 of ! and ( are open at once.");
        isText(0, "(1)+".repeat(12) + "1");
        isText(0, "!1+".repeat(16) + "1");
        isText(0, "!(1)*".repeat(9) + "1");
        isText(0, "((((!1+(2)))))*((((!3))))");
        isText(0, "((((!1+!2))))");
        isText(0, "((((1)+(2))))+!!!!!3");
        isText(0, "!!!!(1)+(((((2)))))");
        faultIs(0, "((((!1+!(2)))))", 8);
        faultIs(0, "((((1)+(((2))))))", 9);
        faultIs(0, "!!!!(1)+((((((2))))))", 13);
        faultIs(0, "(((((1)))))+((((((1))))))", 17);
    }

    private static void intsWrap() {
        due.of(T, "Ints that wrap;");
        gives("f+h<0", MAX, 1, 0, 1);
        gives("f+h=w", MAX, 1, MIN, 1);
        gives("f-h=w", MIN, 1, MAX, 1);
        gives("f-h=w", 0, MIN, MIN, 1);
        gives("f*h=w", MAX, 2, -2, 1);
        gives("f*h=w", MIN, -1, MIN, 1);
        gives("f*f=w", 65536, 0, 0, 1);
        gives("f*f=w", 46341, 0, -2147479015, 1);
        gives("9999*9999*9999=w", 0, 0, -1027349969, 1);
    }

    private static void cutAndRest() {
        due.of(T, "/ cut, % the rest that it leaves, both by 0 are 0;");
        int[][] bothAndCutAndRest = {{7, 2, 3, 1}, {-7, 2, -3, -1}, {7, -2, -3, 1}, {-7, -2, 3, -1}, {6, 3, 2, 0}, {1, 2, 0, 1},
            {-1, 2, 0, -1}, {0, 5, 0, 0}, {5, 0, 0, 0}, {-5, 0, 0, 0}, {0, 0, 0, 0}, {MIN, 0, 0, 0}, {MAX, 0, 0, 0},
            {MIN, -1, MIN, 0}, {MIN, 1, MIN, 0}, {MAX, -1, -MAX, 0}, {MIN, MIN, 1, 0}, {MAX, MIN, 0, MAX}, {1, MIN, 0, 1}};
        for (int[] b : bothAndCutAndRest) {
            gives("f/h=w", b[0], b[1], b[2], 1);
            gives("f%h=w", b[0], b[1], b[3], 1);
        }
        gives("1/0", 0, 0, 0, 0);
        gives("1%0", 0, 0, 0, 0);
        gives("1/0+5", 0, 0, 0, 5);
        gives("1%0+5", 0, 0, 0, 5);
        gives("7/(3-3)|0", 0, 0, 0, 0);
    }

    private static void oneOrZero() {
        due.of(T, "| & < = > ! are 1 or 0, what is not 0 being true; all is worked out.");
        int[] all = {MIN, -2, -1, 0, 1, 2, 4, MAX};
        for (int a : all) {
            gives("5+!f", a, 0, 0, a == 0 ? 6 : 5);
            gives("5+!!f", a, 0, 0, a == 0 ? 5 : 6);
            for (int b : all) {
                // one more by 5, as what is below 0 would be held
                gives("5+(f|h)", a, b, 0, a != 0 || b != 0 ? 6 : 5);
                gives("5+(f&h)", a, b, 0, a != 0 && b != 0 ? 6 : 5);
                gives("5+(f<h)", a, b, 0, a < b ? 6 : 5);
                gives("5+(f=h)", a, b, 0, a == b ? 6 : 5);
                gives("5+(f>h)", a, b, 0, a > b ? 6 : 5);
                gives("f|h", a, b, 0, a != 0 || b != 0 ? 1 : 0);
                gives("f&h", a, b, 0, a != 0 && b != 0 ? 1 : 0);
            }
        }
        gives("1|1/0", 0, 0, 0, 1);
        gives("0&1/0", 0, 0, 0, 0);
        gives("(1|(f|h*w))+(0&f)", 3, 4, 5, 1);
    }

    private static void faultIsTheFirstByte() {
        due.of(T, "FAULT: the place of the first byte with which no TEXT goes on;");
        faultIs(0, ")", 0);
        faultIs(0, "()", 1);
        faultIs(0, "f)", 1);
        faultIs(0, "(f))", 3);
        faultIs(0, "f+)", 2);
        faultIs(0, "(f+)", 3);
        faultIs(0, "f++h", 2);
        faultIs(0, "f+-h", 2);
        faultIs(0, "-1", 0);
        faultIs(0, "f!h", 1);
        faultIs(0, "f(h)", 1);
        faultIs(0, "(f)(h)", 3);
        faultIs(0, "(f)h", 3);
        faultIs(0, "(f)1", 3);
        faultIs(0, "1(", 1);
        faultIs(0, "fF", 1);
        faultIs(0, "f<=h", 2);
        faultIs(0, "f==h", 2);
        faultIs(0, "f||h", 2);
        faultIs(0, "f&&h", 2);
        faultIs(0, "!)", 1);
        faultIs(0, "!+1", 1);
        faultIs(0, "f?????", 1);
        faultIs(0, "f+1 and then what is not looked at", 3);
        faultIs(0, "1".repeat(50), 4);
    }

    private static void faultIsHowManyThereAre() {
        due.of(T, "how many there are, if it ends too early.");
        String[] early = {"", "(", "!", "f+", "f-", "f*", "f/", "f%", "f<", "f=", "f>", "f&", "f|", "(f", "(f+h", "((f)", "!(f", "!!",
            "1234+", "(1234", "f<h&", "f<h|(", "f+!"};
        for (String text : early) {
            faultIs(0, text, text.length());
        }
    }

    private static void faultOfFifty() {
        due.of(T, "how many there are, if it ends too early.");
        faultIs(0, "f+".repeat(25), 50);
        faultIs(0, "10" + "+1".repeat(23) + "+!", 50);
        faultIs(0, "(" + "f+".repeat(24) + "f", 50);
        faultIs(0, "f+".repeat(24) + "f)", 49);
        faultIs(0, "f+".repeat(24) + "+f", 48);
    }

    private static void lowestBytes() {
        due.of(12, "The n lowest bytes (1 .. 8) of a word, the lowest first, come to THE TAPE: how many there are.");
        String text = "(f+h*2)w";
        long word = 0;
        for (int i = 0; i < 8; i++) {
            word |= (long) text.charAt(i) << 8 * i;
        }
        int[] faults = {1, 2, 3, 4, 5, 6, -11, 7};
        for (int n = 1; n <= 8; n++) {
            OvenRings x = new OvenRings();
            due.is(x, n, "feed", word, n);
            due.is(x, n, "count", 7);
            due.is(x, -10L - faults[n - 1], "text", 0);
        }
        OvenRings x = new OvenRings();
        due.is(x, 1, "feed", 0xffffffffffffff66L, 1);
        due.is(x, 3, "feed", 0xffffffffffff322bL, 2);
        due.is(x, 1, "text", 0);
        due.is(x, 9, "law", 0, 7, 0, 0);
        due.is(x, 8, "feed", Long.MIN_VALUE, 8);
        due.is(x, -10, "text", 0);
        due.is(x, 8, "feed", Long.MAX_VALUE, 8);
        due.is(x, -10, "text", 0);
        int[] signs = {0x80, 0xff, 0x100 + 'f', -256 + 'f'};
        int[] answers = {-10, -10, 1, 1};
        for (int i = 0; i < signs.length; i++) {
            due.is(x, 1, "feed", signs[i], 1);
            due.is(x, answers[i], "text", 0);
        }
    }

    private static void tapeIsEmptyThen() {
        due.of(13, "THE TAPE, which is empty then, is the TEXT of a USE (0, 1), in place of one ahead: 1.");
        OvenRings x = new OvenRings();
        for (int use = 0; use < 2; use++) {
            for (int i = 0; i < 3; i++) {
                due.is("a TEXT", Due.text(x, use, "h" + "+1".repeat(i)), 1);
                due.is(x, 0, "count", 7);
                due.is(x, 5 + i, "law", use, 0, use == 0 ? 5 : 0, use == 0 ? 0 : 5);
            }
        }
        due.is(x, 7, "law", 0, 0, 5, 0);
        due.is(x, -10, "text", 0);
        due.is(x, 7, "law", 0, 0, 5, 0);
        due.is("50 bytes", Due.text(x, 0, "f+".repeat(24) + "1*"), -60);
        due.is(x, 0, "count", 7);
        due.is(x, 1, "feed", 'h', 1);
    }

    private static void oneAheadStays() {
        due.of(13, "-10 less the FAULT (no ERROR; the one ahead stays; THE TAPE is empty, too).");
        OvenRings x = new OvenRings();
        due.is("none ahead", Due.text(x, 0, "f+"), -12);
        due.is(x, 20, "law", 0, 1, 1, 1);
        due.is("a TEXT", Due.text(x, 0, "f+1"), 1);
        due.is("a fault", Due.text(x, 0, "f+2)"), -13);
        due.is(x, 0, "count", 7);
        due.is(x, 8, "law", 0, 7, 0, 0);
        for (int k = 1; k <= 5; k++) {
            due.is(x, 0, "told", k);
        }
        Due.tape(x, "d");
        due.is(x, Due.BEYOND, "text", 2);
        due.is(x, Due.BEYOND, "text", -1);
        due.is(x, 1, "count", 7);
        due.is(x, 1, "text", 1);
    }

    private static void namesInOrder() {
        due.of(14, "What a USE gives with its NAMES in order as a, b, c.");
        for (int use = 0; use < 2; use++) {
            for (int i = 0; i < 3; i++) {
                OvenRings x = new OvenRings();
                due.is("a name", Due.text(x, use, NAMES[use].substring(i, i + 1)), 1);
                due.is(x, 11L * (i + 1), "law", use, 11, 22, 33);
            }
        }
        gives("w", 0, 24, 99, 99);
        gives("h", 0, 24, 0, 24);
        gives("h+w", 0, -1, 100, 99);
    }

    private static void heldOfWanted() {
        due.of(T, "held within 0 to 99; without a TEXT 20.");
        int[][] givenAndHeld = {{MIN, 0}, {-1000000001, 0}, {-1, 0}, {0, 0}, {1, 1}, {98, 98}, {99, 99}, {100, 99}, {999, 99}, {MAX, 99}};
        for (int[] g : givenAndHeld) {
            gives("f", g[0], 0, 0, g[1]);
        }
        OvenRings x = new OvenRings();
        int[] all = {MIN, -1, 0, 19, 100, MAX};
        for (int v : all) {
            due.is(x, 20, "law", 0, v, v, v);
        }
    }

    private static void heldOfGoes() {
        due.of(T, "held within 0 to 999; without a TEXT d/3.");
        int[][] givenAndHeld = {{MIN, 0}, {-1000000001, 0}, {-1, 0}, {0, 0}, {1, 1}, {99, 99}, {100, 100}, {998, 998}, {999, 999},
            {1000, 999}, {MAX, 999}};
        for (int[] g : givenAndHeld) {
            OvenRings x = new OvenRings();
            due.is("a TEXT", Due.text(x, 1, "d"), 1);
            due.is(x, g[1], "law", 1, g[0], 5, 5);
        }
    }

    private static void withoutText() {
        due.of(T, "held within 0 to 999; without a TEXT d/3.");
        OvenRings x = new OvenRings();
        int[][] dAndThird = {{0, 0}, {1, 0}, {2, 0}, {3, 1}, {5, 1}, {6, 2}, {998, 332}, {999, 333}, {2996, 998}, {2997, 999},
            {3000, 999}, {MAX, 999}, {-1, 0}, {-2, 0}, {-3, 0}, {MIN, 0}};
        for (int[] d : dAndThird) {
            due.is(x, d[1], "law", 1, d[0], 9, 9);
        }
    }
}
