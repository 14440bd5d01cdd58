/** Promises 1 to 3: the bounds of a TEXT, code by code and number by number, and what a taken TEXT makes anew. */
public final class TextEdgesTest {
    private static final Checks C = new Checks();
    private static final String DIGITS = "0123456789";
    /** Months of 20 days, so that any first digit of UPPER goes with the second one. */
    private static final String SIX = "m052015;b12665;s12062;r30603;b40669;r55623;b70165";
    private static final String ONE = "m052015;b12665";
    private static final String[] HEAD = {"m", "012", DIGITS, "23456", DIGITS, "12", DIGITS};
    private static final String[] BILL = {";", "bsr", DIGITS, DIGITS, "0123456", "0123456", "123456789"};

    public static void main(String[] args) {
        nothingAtFirst();
        everyCodeAtEveryPlace();
        twoDigits();
        endsTooSoon();
        firstOfTwoFaults();
        seventhBill();
        codesBeyondBytes();
        textAtTheEndsOfARow();
        begins();
        months();
        spans();
        howManyBills();
        numbersOfBills();
        kinds();
        allAnew();
        nothingIsLeftOfEarlierBills();
        C.end("TextEdgesTest");
    }

    private static int council(String text) {
        return Checks.council(new MoonVeto(), text);
    }

    private static void nothingAtFirst() {
        C.part("1 \"No COUNCIL (no BILLS), SHEETS have nothing.\"");
        MoonVeto x = new MoonVeto();
        for (int k = 0; k < 4; k++) {
            for (int lane = 0; lane <= 2; lane++) {
                C.due("council(" + k + ", " + lane + ", 0, 0)", x.council(k, lane, 0, 0), -11);
            }
            C.due("lose(" + k + ")", x.lose(k), 0);
        }
        C.due("many(0)", x.many(0), 0);
        C.due("passing()", x.passing(), MoonVeto.STATE);
        C.due("tell(0)", x.tell(0), MoonVeto.UNKNOWN);
        C.due("trace()", x.trace(), 0);
        C.due("fault() behind council(3, 2, 0, 0)", x.fault(), 1);
        C.due("fault() of a new one", new MoonVeto().fault(), 0);
    }

    /** Each byte in place of each code of a whole TEXT: it is taken, or the place is the FIRST FAULT. */
    private static void everyCodeAtEveryPlace() {
        C.part("2 \"the place (from 0 on) of the first code with which no TEXT goes on\"");
        for (int place = 0; place < SIX.length(); place++) {
            String taken = place < 7 ? HEAD[place] : BILL[place % 7];
            for (int code = -128; code < 128; code++) {
                MoonVeto x = new MoonVeto();
                x.sheet(0, 0, SIX.length());
                for (int i = 0; i < SIX.length(); i++) {
                    x.put(0, i, SIX.charAt(i));
                }
                x.put(0, place, code);
                int want = code >= 0 && taken.indexOf(code) >= 0 ? 6 : -100 - place;
                C.due("council with " + code + " at " + place, x.council(0, 0, 0, SIX.length()), want);
            }
        }
    }

    private static void twoDigits() {
        C.part("2 \"of two digits the first one, if none of its span begins so, else the second one\"");
        for (int v = 0; v < 100; v++) {
            String two = (v < 10 ? "0" : "") + v;
            C.due("BEGINS " + two, council("m" + two + "2015;b12665"), v <= 29 ? 1 : -101);
            int upper = v < 20 || v >= 70 ? -103 : v > 60 ? -104 : 1;
            C.due("UPPER " + two, council("m05" + two + "15;b12665"), upper);
            C.due("DAY " + two, council("m052015;b" + two + "665"), 1);
        }
        C.due("UPPER 6 and no digit", council("m056x15;b12665"), -104);
        C.due("UPPER 6 and an end", council("m056"), -104);
        C.due("UPPER 1 and an end", council("m051"), -103);
    }

    private static void endsTooSoon() {
        C.part("2 \"how many codes there are, if it just ends too soon\"");
        for (int n = 0; n < SIX.length(); n++) {
            boolean isWhole = n >= 14 && n % 7 == 0;
            C.due("the first " + n + " codes", council(SIX.substring(0, n)), isWhole ? n / 7 - 1 : -100 - n);
        }
    }

    private static void firstOfTwoFaults() {
        C.part("2 \"FIRST FAULT\"");
        C.due("a wrong code as the last one, that ends too soon", council("m052015;b1266x"), -113);
        C.due("a wrong code ahead of an end too soon", council("m0520x5"), -105);
        C.due("two wrong codes", council("m0520x5;x"), -105);
        C.due("a wrong code alone", council("x"), -100);
        C.due("a text behind a text", council(ONE + ONE), -114);
        C.due("a blank at the end", council(ONE + " "), -114);
    }

    private static void seventhBill() {
        C.part("2 \"the ; of a seventh BILL\"");
        C.due("its ; alone", council(SIX + ";"), -149);
        C.due("all of it", council(SIX + ";b12665"), -149);
        C.due("a sixth BILL that ends too soon", council(SIX.substring(0, 48)), -148);
        C.due("another code there", council(SIX + "0"), -149);
        C.due("a row that is full", council(SIX + ";b12665;b12"), -149);
    }

    /** What is no code of a byte is none of a TEXT either, unless the LANE cuts it to one. */
    private static void codesBeyondBytes() {
        C.part("2 codes beyond a byte, by LANES");
        int[] more = {256, -256, 65536, -65536, 1 << 30, Integer.MIN_VALUE};
        for (int lane = 0; lane <= 2; lane++) {
            for (int by : more) {
                MoonVeto x = new MoonVeto();
                x.sheet(0, lane, ONE.length());
                for (int i = 0; i < ONE.length(); i++) {
                    x.put(0, i, ONE.charAt(i) + (i == 8 ? by : 0));
                }
                boolean isCut = lane == 0 || lane == 1 && by != 256 && by != -256;
                int want = isCut ? 1 : -108;
                C.due("council with b and " + by + " of lane " + lane, x.council(0, lane, 0, 14), want);
            }
        }
    }

    private static void textAtTheEndsOfARow() {
        C.part("2 \"a TEXT of n cells of a SHEET from i on\"");
        MoonVeto x = new MoonVeto();
        x.sheet(3, 2, 60);
        for (int i = 0; i < SIX.length(); i++) {
            x.put(3, 11 + i, SIX.charAt(i));
        }
        C.due("council(3, 2, 11, 49): to the last cell", x.council(3, 2, 11, 49), 6);
        C.due("council(3, 2, 11, 14): a part of it", x.council(3, 2, 11, 14), 1);
        C.due("council(3, 2, 11, 50)", x.council(3, 2, 11, 50), -13);
        C.due("council(3, 2, 10, 50)", x.council(3, 2, 10, 50), -100);
        C.due("council(3, 2, 0, 60)", x.council(3, 2, 0, 60), -100);
        C.due("council(3, 2, 60, 0)", x.council(3, 2, 60, 0), -100);
        C.due("council(3, 2, 61, 0)", x.council(3, 2, 61, 0), -13);
        C.due("many(0)", x.many(0), 1);
    }

    private static void begins() {
        C.part("2, 34 \"BEGINS: 00 .. 29\"");
        for (int v = 0; v <= 29; v++) {
            MoonVeto x = Checks.of("m" + (v < 10 ? "0" : "") + v + "2015;b12665");
            C.due("many(1) of " + v, x.many(1), v);
            C.due("moon(0) of " + v, x.moon(0), v);
        }
    }

    private static void months() {
        C.part("2, 4 \"UPPER: 20 .. 60\", \"a digit 1, 2 (LOWER)\"");
        for (int upper = 20; upper <= 60; upper++) {
            MoonVeto one = Checks.of("m03" + upper + "15;b12665");
            C.due("moon(99) of " + upper + " by 1", one.moon(99), 3 + 99 * upper);
            MoonVeto two = Checks.of("m03" + upper + "25;b12665");
            C.due("moon(98) of " + upper + " by 2", two.moon(98), 3 + 49 * upper);
        }
    }

    private static void spans() {
        C.part("2, 34 \"a digit 0 .. 9 (SPAN)\"");
        for (int v = 0; v <= 9; v++) {
            C.due("many(2) of " + v, Checks.of("m05201" + v + ";b12665").many(2), v);
        }
    }

    private static void howManyBills() {
        C.part("2, 34 \"1 to 6 BILLS, numbered from 0 on\"");
        StringBuilder text = new StringBuilder("m052015");
        C.due("council of no BILL", council(text.toString()), -107);
        for (int bills = 1; bills <= 6; bills++) {
            text.append(";b1").append(bills).append("665");
            MoonVeto x = new MoonVeto();
            C.due("council of " + bills, Checks.council(x, text.toString()), bills);
            C.due("many(0) of " + bills, x.many(0), bills);
            C.due("the last one's DAY", x.ofBill(bills - 1, 1), 10 + bills);
            C.due("one that is not there", x.ofBill(bills, 1), MoonVeto.UNKNOWN);
        }
    }

    private static void numbersOfBills() {
        C.part("3 \"0 kind, 1 DAY, 2 NEEDS, 3 NAMES, 4 LASTS\"");
        MoonVeto least = Checks.of("m052015;b00001");
        int[] small = {0, 0, 0, 0, 1};
        MoonVeto most = Checks.of("m052015;b00001;r99669");
        int[] great = {2, 99, 6, 6, 9};
        for (int what = 0; what <= 4; what++) {
            C.due("ofBill(0, " + what + ") of the least", least.ofBill(0, what), small[what]);
            C.due("ofBill(1, " + what + ") of the greatest", most.ofBill(1, what), great[what]);
        }
        for (int v = 0; v <= 6; v++) {
            MoonVeto x = Checks.of("m052015;s07" + v + (6 - v) + "4");
            C.due("NEEDS " + v, x.ofBill(0, 2), v);
            C.due("NAMES " + (6 - v), x.ofBill(0, 3), 6 - v);
        }
        for (int v = 1; v <= 9; v++) {
            C.due("LASTS " + v, Checks.of("m052015;s0766" + v).ofBill(0, 4), v);
        }
    }

    private static void kinds() {
        C.part("2, 3 \"Kinds: 0 BILL (b); 1 SUNSET (s), a BILL; 2 REPEAL (r), a SUNSET\"");
        MoonVeto x = Checks.of("m052015;r12665;s12665;b12665");
        for (int b = 0; b < 3; b++) {
            C.due("ofBill(" + b + ", 0)", x.ofBill(b, 0), 2 - b);
        }
    }

    private static void allAnew() {
        C.part("2 \"A TEXT that is taken makes all anew: no night is CLOUDED, no READINGS\"");
        MoonVeto x = Checks.of(ONE);
        C.due("span(9)", x.span(9), 5);
        C.due("move(0, 40)", x.move(0, 40), 12);
        for (int day : new int[] {0, 5, 25, 109}) {
            x.cloud(day, true);
        }
        for (int k = 0; k < 8; k++) {
            x.reading(0, 109, k == 7);
        }
        C.due("spans() by READINGS", x.spans(), 0);
        C.due("council of the same TEXT", x.council(0, 0, 0, 14), 1);
        C.due("fault()", x.fault(), 0);
        C.due("many(2)", x.many(2), 5);
        C.due("many(3)", x.many(3), 0);
        C.due("many(4)", x.many(4), 0);
        C.due("ofBill(0, 1)", x.ofBill(0, 1), 12);
        C.due("spans() without READINGS", x.spans(), 1023);
        C.due("back(1)", x.back(1), MoonVeto.OUTSIDE);
        for (int day = 0; day <= 109; day++) {
            C.due("cloud(" + day + ", false)", x.cloud(day, false), 0);
        }
        C.due("reading(0, 0, false)", x.reading(0, 0, false), 0);
    }

    private static void nothingIsLeftOfEarlierBills() {
        C.part("2, 9, 10 BILLS of an earlier TEXT");
        MoonVeto x = Checks.of("m006010;b10669;r11609;b12669");
        C.due("passing() of three", x.passing(), 7);
        C.due("force(50) of three", x.force(50), 6);
        C.due("council of one", Checks.council(x, "m006010;b10669"), 1);
        C.due("force(50): no REPEAL any more", x.force(50), 1);
        C.due("council of one with a need", Checks.council(x, "m006010;b50269"), 1);
        C.due("passing(): what it NEEDS is there no more", x.passing(), 0);
        C.due("tell(1)", x.tell(1), MoonVeto.UNKNOWN);
        C.due("reading(1, 0, true)", x.reading(1, 0, true), MoonVeto.UNKNOWN);
        C.due("council of two", Checks.council(x, "m006010;b50269;s60669"), 2);
        C.due("ofBill(1, 0)", x.ofBill(1, 0), 1);
        C.due("ofBill(2, 0)", x.ofBill(2, 0), MoonVeto.UNKNOWN);
    }
}
