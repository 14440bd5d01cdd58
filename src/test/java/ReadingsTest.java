/** Promises 17 to 22: reading, back, spans, origins, kinds, moved. */
public final class ReadingsTest {
    private static final Checks C = new Checks();

    public static void main(String[] args) {
        reading();
        back();
        spans();
        origins();
        kinds();
        moved();
        C.end("ReadingsTest");
    }

    private static void reading() {
        C.part("17 reading");
        MoonVeto x = Checks.of("m003010;b25669");
        for (int k = 0; k < 8; k++) {
            C.due("reading " + k, x.reading(0, k == 0 ? 0 : 109, k % 2 == 0), k);
        }
        C.due("a ninth one", x.reading(0, 0, true), MoonVeto.FULL);
        C.due("a ninth one of day 110", x.reading(0, 110, true), MoonVeto.OUTSIDE);
        C.due("a ninth one of bill 1", x.reading(1, 110, true), MoonVeto.UNKNOWN);
        C.due("many(3)", x.many(3), 8);
        C.due("back(1)", x.back(1), 7);
        C.due("reading(0, -1, true)", x.reading(0, -1, true), MoonVeto.OUTSIDE);
        C.due("reading(-1, 0, true)", x.reading(-1, 0, true), MoonVeto.UNKNOWN);
        C.due("reading again", x.reading(0, 109, true), 7);
    }

    private static void back() {
        C.part("18 back");
        MoonVeto x = Checks.of("m003010;b25669");
        x.reading(0, 40, true);
        x.reading(0, 40, false);
        C.due("spans() of two that are apart", x.spans(), 0);
        C.due("back(0)", x.back(0), 2);
        C.due("back(3)", x.back(3), MoonVeto.OUTSIDE);
        C.due("back(-1)", x.back(-1), MoonVeto.OUTSIDE);
        C.due("back(1): the last", x.back(1), 1);
        C.due("spans()", x.spans(), 31);
        C.due("back(1)", x.back(1), 0);
        C.due("back(1)", x.back(1), MoonVeto.OUTSIDE);
        C.due("many(3)", x.many(3), 0);
        MoonVeto none = new MoonVeto();
        C.due("back(0) without a council", none.back(0), 0);
        C.due("back(1) without a council", none.back(1), MoonVeto.OUTSIDE);
    }

    private static void spans() {
        C.part("19 spans");
        MoonVeto x = Checks.of("m003010;b25669");
        C.due("spans() without readings", x.spans(), 1023);
        x.reading(0, 40, false);
        C.due("spans(): struck", x.spans(), 992);
        C.due("many(2)", x.many(2), 0);
        x.cloud(30, true);
        C.due("spans() with a cloud", x.spans(), 0);
        x.cloud(30, false);
        x.reading(0, 25, false);
        C.due("spans(): on its day", x.spans(), 992);
        C.due("spans() without a council", new MoonVeto().spans(), MoonVeto.STATE);
    }

    private static void origins() {
        C.part("20 origins");
        MoonVeto x = Checks.of("m003010;b25669");
        C.due("origins() without readings", x.origins(), 1073741823);
        x.reading(0, 40, false);
        C.due("origins(): struck", x.origins(), 1 << 25);
        C.due("many(1)", x.many(1), 0);
        x.cloud(25, true);
        C.due("origins() with a cloud on that night", x.origins(), 0);
        x.back(1);
        x.span(9);
        x.reading(0, 40, true);
        C.due("origins(): days 25 to 34 alone, but for the cloud", x.origins(), 1073741823 - (30 << 25) - 31);
        C.due("origins() without a council", new MoonVeto().origins(), MoonVeto.STATE);
    }

    private static void kinds() {
        C.part("21 kinds");
        MoonVeto x = Checks.of("m003010;b05661;b25601");
        C.due("kinds(0) without readings", x.kinds(0), 7);
        x.reading(1, 35, true);
        C.due("kinds(1)", x.kinds(1), 7);
        x.reading(1, 36, false);
        C.due("kinds(1): a sunset", x.kinds(1), 2);
        C.due("kinds(0)", x.kinds(0), 0);
        x.back(1);
        x.reading(0, 26, false);
        C.due("kinds(1): a repeal", x.kinds(1), 4);
        C.due("kinds(0)", x.kinds(0), 2);
        C.due("ofBill(1, 0)", x.ofBill(1, 0), 0);
        C.due("ofBill(0, 0)", x.ofBill(0, 0), 0);
        C.due("kinds(2)", x.kinds(2), MoonVeto.UNKNOWN);
        C.due("kinds(-1)", x.kinds(-1), MoonVeto.UNKNOWN);
    }

    private static void moved() {
        C.part("22 moved");
        MoonVeto x = Checks.of("m003010;b25669");
        C.due("moved(0, 0) without readings", x.moved(0, 0), 100);
        C.due("moved(0, 1) without readings", x.moved(0, 1), 0);
        x.reading(0, 40, true);
        C.due("moved(0, 0)", x.moved(0, 0), 38);
        C.due("moved(0, 1)", x.moved(0, 1), 1);
        x.reading(0, 39, false);
        C.due("moved(0, 0): one", x.moved(0, 0), 1);
        C.due("moved(0, 1): one", x.moved(0, 1), 39);
        x.reading(0, 40, false);
        C.due("moved(0, 0): none", x.moved(0, 0), 0);
        C.due("moved(0, 1): none", x.moved(0, 1), MoonVeto.NONE);
        x.back(3);
        x.reading(0, 109, false);
        C.due("moved(0, 0): the full moons", x.moved(0, 0), 4);
        C.due("moved(0, 1): the first full moon", x.moved(0, 1), 0);
        C.due("ofBill(0, 1)", x.ofBill(0, 1), 25);
        C.due("moved(1, 2)", x.moved(1, 2), MoonVeto.UNKNOWN);
        C.due("moved(-1, 0)", x.moved(-1, 0), MoonVeto.UNKNOWN);
        C.due("moved(0, 2)", x.moved(0, 2), MoonVeto.OUTSIDE);
        C.due("moved(0, -1)", x.moved(0, -1), MoonVeto.OUTSIDE);
    }
}
