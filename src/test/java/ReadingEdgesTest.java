/** Promises 17 to 22: the bounds of readings and of what may have been by them. */
public final class ReadingEdgesTest {
    private static final Checks C = new Checks();
    private static final int ALL_SPANS = 1023, ALL_ORIGINS = 1073741823;
    /** Full moons on days 29 and 89 alone, of days 0 .. 109. */
    private static final String RARE = "m296010";

    public static void main(String[] args) {
        eightAtMost();
        takenBack();
        firstAndLastDay();
        spansOfAllAndNone();
        spansOfOne();
        originsOfAllAndNone();
        originsOfOne();
        kindsOfAllAndNone();
        kindsOfOne();
        movedOfAllAndNone();
        movedOfOne();
        inPlaceOfWhatItIs();
        C.end("ReadingEdgesTest");
    }

    private static void eightAtMost() {
        C.part("17 \"READINGS, 8 at most, numbered by how many there are\"");
        MoonVeto x = Checks.of(RARE + ";b50669");
        C.due("many(3): none", x.many(3), 0);
        for (int k = 0; k < 8; k++) {
            C.due("reading " + k, x.reading(0, 51 + k, true), k);
            C.due("many(3)", x.many(3), k + 1);
        }
        C.due("spans() of eight", x.spans(), ALL_SPANS);
        C.due("a ninth", x.reading(0, 50, true), MoonVeto.FULL);
        C.due("spans() of eight", x.spans(), ALL_SPANS);
        C.due("back(1)", x.back(1), 7);
        C.due("the eighth again", x.reading(0, 50, true), 7);
        C.due("spans(): the eighth is not so", x.spans(), 0);
        C.due("a ninth again", x.reading(0, 51, true), MoonVeto.FULL);
    }

    private static void takenBack() {
        C.part("18 \"The last k READINGS (0 .. as many as there are) are taken back: how many are left\"");
        MoonVeto x = Checks.of(RARE + ";b50669");
        C.due("back(0) of none", x.back(0), 0);
        C.due("back(1) of none", x.back(1), MoonVeto.OUTSIDE);
        x.reading(0, 51, true);
        for (int k = 1; k < 8; k++) {
            x.reading(0, 50, true);
        }
        C.due("back(0) of eight", x.back(0), 8);
        C.due("spans()", x.spans(), 0);
        C.due("back(6)", x.back(6), 2);
        C.due("spans()", x.spans(), 0);
        C.due("back(1)", x.back(1), 1);
        C.due("spans(): the first is left", x.spans(), ALL_SPANS);
        C.due("back(2) of one", x.back(2), MoonVeto.OUTSIDE);
        C.due("back(1) of one", x.back(1), 0);
        for (int k = 0; k < 8; k++) {
            C.due("reading " + k + " again", x.reading(0, 50, true), k);
        }
        C.due("back(9) of eight", x.back(9), MoonVeto.OUTSIDE);
        C.due("back(8) of eight", x.back(8), 0);
        C.due("many(3)", x.many(3), 0);
        C.due("back(0) without a COUNCIL", new MoonVeto().back(0), 0);
    }

    private static void firstAndLastDay() {
        C.part("17 \"day (0 .. 109)\"");
        MoonVeto x = Checks.of(RARE + ";b50669");
        C.due("reading(0, 0, false)", x.reading(0, 0, false), 0);
        C.due("reading(0, 109, true)", x.reading(0, 109, true), 1);
        C.due("spans()", x.spans(), ALL_SPANS);
        C.due("reading(0, 0, true)", x.reading(0, 0, true), 2);
        C.due("spans()", x.spans(), 0);
        C.due("back(1)", x.back(1), 2);
        C.due("reading(0, 109, false)", x.reading(0, 109, false), 2);
        C.due("spans(): it was and was not", x.spans(), 0);
    }

    private static int spans(int day, boolean was) {
        MoonVeto x = Checks.of("m296014;b" + (day < 10 ? "0" : "") + day + "669");
        x.reading(0, 109, was);
        int set = x.spans();
        C.due("many(2) stays", x.many(2), 4);
        return set;
    }

    private static void spansOfAllAndNone() {
        C.part("19 \"SPANS: 0 .. 9, as a set\"");
        C.due("without READINGS", Checks.of(RARE + ";b29669").spans(), ALL_SPANS);
        C.due("always STRUCK, was not", spans(29, false), ALL_SPANS);
        C.due("always STRUCK, was", spans(29, true), 0);
        C.due("never STRUCK, was", spans(30, true), ALL_SPANS);
        C.due("never STRUCK, was not", spans(30, false), 0);
        C.due("never STRUCK, ahead of the last SPAN", spans(19, true), ALL_SPANS);
    }

    private static void spansOfOne() {
        C.part("19 SPANS: the first, the last alone");
        C.due("9 alone", spans(20, false), 512);
        C.due("all but 9", spans(20, true), 511);
        C.due("0 alone", spans(28, true), 1);
        C.due("all but 0", spans(28, false), 1022);
    }

    private static int origins(String day, int span, boolean was) {
        MoonVeto x = Checks.of("m07601" + span + ";b" + day + "669");
        x.reading(0, 109, was);
        int set = x.origins();
        C.due("many(1) stays", x.many(1), 7);
        return set;
    }

    private static void originsOfAllAndNone() {
        C.part("20 \"ORIGINS: days 0 .. 29 on which it BEGINS, as a set\"");
        C.due("without READINGS", Checks.of(RARE + ";b29669").origins(), ALL_ORIGINS);
        C.due("never STRUCK, was", origins("30", 9, true), ALL_ORIGINS);
        C.due("never STRUCK, was not", origins("50", 9, false), 0);
        C.due("never STRUCK, behind the last", origins("90", 9, true), ALL_ORIGINS);
    }

    private static void originsOfOne() {
        C.part("20 ORIGINS: the first, the last alone");
        C.due("29 alone", origins("29", 0, false), 1 << 29);
        C.due("29 alone, by its last SPAN", origins("29", 9, false), 1 << 29);
        C.due("29 alone, by the next full moon", origins("89", 0, false), 1 << 29);
        C.due("0 alone", origins("00", 0, false), 1);
        C.due("0 alone, by the next full moon", origins("51", 9, false), 1);
        C.due("all but 29", origins("29", 0, true), ALL_ORIGINS - (1 << 29));
        C.due("all but 0", origins("00", 0, true), ALL_ORIGINS - 1);
        MoonVeto x = Checks.of("m076010;b29669");
        x.cloud(29, true);
        x.reading(0, 109, true);
        C.due("29 by a night that is CLOUDED", x.origins(), ALL_ORIGINS);
    }

    private static MoonVeto pair() {
        return Checks.of(RARE + ";b10669;b50601");
    }

    private static void kindsOfAllAndNone() {
        C.part("21 \"KINDS of a BILL: 0 .. 2, as a set\"");
        MoonVeto x = pair();
        C.due("kinds(1) without READINGS", x.kinds(1), 7);
        x.reading(1, 60, true);
        C.due("kinds(1): on the last day of a SUNSET", x.kinds(1), 7);
        x.reading(1, 50, true);
        C.due("kinds(1): on its DAY", x.kinds(1), 0);
        C.due("kinds(0)", x.kinds(0), 0);
        C.due("ofBill(1, 0)", x.ofBill(1, 0), 0);
    }

    private static void kindsOfOne() {
        C.part("21 KINDS: each alone");
        MoonVeto sunset = pair();
        sunset.reading(1, 61, false);
        C.due("kinds(1): a SUNSET", sunset.kinds(1), 2);
        MoonVeto repeal = pair();
        repeal.reading(0, 61, false);
        C.due("kinds(1): a REPEAL", repeal.kinds(1), 4);
        MoonVeto bill = pair();
        bill.reading(0, 61, true);
        C.due("kinds(1): no REPEAL", bill.kinds(1), 3);
        bill.reading(1, 61, true);
        C.due("kinds(1): a BILL", bill.kinds(1), 1);
    }

    private static void movedOfAllAndNone() {
        C.part("22 \"MOVED of a BILL: DAYS 0 .. 99: how many, the first one\", \"NONE\"");
        MoonVeto x = Checks.of(RARE + ";b50669");
        C.due("moved(0, 0) without READINGS", x.moved(0, 0), 100);
        C.due("moved(0, 1) without READINGS", x.moved(0, 1), 0);
        x.reading(0, 0, false);
        C.due("moved(0, 0): day 0", x.moved(0, 0), 100);
        x.reading(0, 0, true);
        C.due("moved(0, 0): none", x.moved(0, 0), 0);
        C.due("moved(0, 1): none", x.moved(0, 1), MoonVeto.NONE);
        C.due("ofBill(0, 1)", x.ofBill(0, 1), 50);
    }

    private static void one(int onDay, int notOnDay, int moved) {
        MoonVeto x = Checks.of(RARE + ";b50669");
        x.reading(0, onDay, true);
        x.reading(0, notOnDay, false);
        C.due("moved(0, 0) of " + moved + " alone", x.moved(0, 0), 1);
        C.due("moved(0, 1) of " + moved + " alone", x.moved(0, 1), moved);
    }

    private static void movedOfOne() {
        C.part("22 MOVED: the first, the last alone");
        one(1, 0, 0);
        one(100, 99, 99);
        one(99, 98, 98);
        MoonVeto x = Checks.of(RARE + ";b50669");
        x.reading(0, 109, false);
        C.due("moved(0, 0): full moons", x.moved(0, 0), 2);
        C.due("moved(0, 1): full moons", x.moved(0, 1), 29);
    }

    private static void inPlaceOfWhatItIs() {
        C.part("19 to 22 \"in place of what it is alone\"");
        MoonVeto x = Checks.of("m296010;b20661;b28669");
        x.reading(0, 109, false);
        x.reading(1, 109, true);
        C.due("spans(): one SPAN for both", x.spans(), 0);
        C.due("origins(): one BEGINS for both", x.origins(), 1 << 20);
        C.due("kinds(0)", x.kinds(0), 2);
        C.due("kinds(1)", x.kinds(1), 0);
        C.due("moved(0, 0)", x.moved(0, 0), 2);
        C.due("moved(1, 0)", x.moved(1, 0), 0);
        C.due("passing()", x.passing(), 3);
        C.due("many(3)", x.many(3), 2);
    }
}
