/** Promises 1 to 7: a new object, council, ofBill, moon, span, move, cloud. */
public final class CouncilTest {
    private static final Checks C = new Checks();
    private static final String SIX = "m055925;b12665;s12062;r30603;b40669;r55623;b70165";

    public static void main(String[] args) {
        newObject();
        texts();
        firstFaults();
        refusalsOfCouncil();
        councilAnew();
        lanes();
        ofBill();
        moon();
        span();
        move();
        cloud();
        C.end("CouncilTest");
    }

    private static void newObject() {
        C.part("1 a new object");
        MoonVeto x = new MoonVeto();
        for (int what = 0; what <= 4; what++) {
            C.due("many(" + what + ")", x.many(what), 0);
        }
        for (int k = 0; k < 4; k++) {
            C.due("lose(" + k + ")", x.lose(k), 0);
            C.due("put(" + k + ", 0, 1)", x.put(k, 0, 1), -11);
        }
        MoonVeto y = new MoonVeto();
        C.due("trace()", y.trace(), 0);
        C.due("fault()", y.fault(), 0);
        C.due("passing()", y.passing(), MoonVeto.STATE);
        C.due("ofBill(0, 0)", y.ofBill(0, 0), MoonVeto.UNKNOWN);
    }

    private static void text(String text, int want) {
        C.due("council of " + text, Checks.council(new MoonVeto(), text), want);
    }

    private static void texts() {
        C.part("2 texts that are taken");
        text("m002010;b00001", 1);
        text("m296029;s99669", 1);
        text("m195929;r99669", 1);
        text("m002010;b00001;b00001", 2);
        text(SIX, 6);
    }

    private static void firstFaults() {
        C.part("2 first faults");
        for (int n = 0; n < SIX.length(); n++) {
            if (n < 14 || n % 7 != 0) {
                text(SIX.substring(0, n), -100 - n);
            }
        }
        text("", -100);
        text("n055925;b12665", -100);
        text("M055925;b12665", -100);
        text("m355925;b12665", -101);
        text("m/55925;b12665", -101);
        text("m0:5925;b12665", -102);
        text("m051925;b12665", -103);
        text("m057925;b12665", -103);
        text("m056125;b12665", -104);
        text("m056925;b12665", -104);
        text("m055/25;b12665", -104);
        text("m055905;b12665", -105);
        text("m055935;b12665", -105);
        text("m05592:;b12665", -106);
        text("m055925:b12665", -107);
        text("m0559255;b12665", -107);
        text("m055925;c12665", -108);
        text("m055925;B12665", -108);
        text("m055925;q12665", -108);
        text("m055925;t12665", -108);
        text("m055925;b/2665", -109);
        text("m055925;b1:665", -110);
        text("m055925;b12765", -111);
        text("m055925;b12675", -112);
        text("m055925;b12660", -113);
        text("m055925;b1266:", -113);
        text("m055925;b12665b", -114);
        text("m055925;b12665;", -115);
        text(SIX + ";", -149);
        text(SIX + "b", -149);
        text(SIX + ";b12665", -149);
    }

    private static void refusalsOfCouncil() {
        C.part("2 refusals and faults");
        MoonVeto x = new MoonVeto();
        x.sheet(1, 1, 14);
        x.sheet(2, 2, 0);
        C.due("council(-1, 3, 0, -1)", x.council(-1, 3, 0, -1), MoonVeto.UNKNOWN);
        C.due("council(4, 0, 0, 0)", x.council(4, 0, 0, 0), MoonVeto.UNKNOWN);
        C.due("council(1, 3, 0, -1)", x.council(1, 3, 0, -1), MoonVeto.OUTSIDE);
        C.due("council(1, -1, 0, -1)", x.council(1, -1, 0, -1), MoonVeto.OUTSIDE);
        C.due("fault()", x.fault(), 0);
        C.due("council(1, 0, 0, -1)", x.council(1, 0, 0, -1), -12);
        C.due("fault()", x.fault(), 2);
        C.due("council(0, 0, 0, -1)", x.council(0, 0, 0, -1), -11);
        C.due("fault()", x.fault(), 1);
        C.due("council(1, 1, 15, -1)", x.council(1, 1, 15, -1), -14);
        C.due("fault()", x.fault(), 4);
        C.due("council(1, 1, -1, 1)", x.council(1, 1, -1, 1), -13);
        C.due("council(1, 1, 0, 15)", x.council(1, 1, 0, 15), -13);
        C.due("council(1, 1, 1, 14)", x.council(1, 1, 1, 14), -13);
        C.due("council(1, 1, 15, 0)", x.council(1, 1, 15, 0), -13);
        C.due("council(1, 1, MAX, MAX)", x.council(1, 1, Integer.MAX_VALUE, Integer.MAX_VALUE), -13);
        C.due("council(1, 1, 1, MAX)", x.council(1, 1, 1, Integer.MAX_VALUE), -13);
        C.due("fault()", x.fault(), 3);
        C.due("council(1, 1, 14, 0)", x.council(1, 1, 14, 0), -100);
        C.due("fault()", x.fault(), 0);
        C.due("council(2, 2, 0, 0)", x.council(2, 2, 0, 0), -100);
        C.due("many(0)", x.many(0), 0);
    }

    private static void councilAnew() {
        C.part("2 a council anew");
        MoonVeto x = Checks.of(SIX);
        x.cloud(0, true);
        x.cloud(109, true);
        x.cloud(34, true);
        x.reading(0, 20, true);
        x.tell(0);
        C.due("council of a text with a fault", Checks.council(x, "m006013;b1066"), -113);
        C.due("many(0)", x.many(0), 6);
        C.due("many(1)", x.many(1), 5);
        C.due("many(2)", x.many(2), 5);
        C.due("many(3)", x.many(3), 1);
        C.due("many(4)", x.many(4), 3);
        C.due("council of a text", Checks.council(x, "m006013;b10661"), 1);
        C.due("many(0)", x.many(0), 1);
        C.due("many(1)", x.many(1), 0);
        C.due("many(2)", x.many(2), 3);
        C.due("many(3)", x.many(3), 0);
        C.due("many(4)", x.many(4), 0);
        C.due("cloud(34, true)", x.cloud(34, true), 1);
        C.due("cloud(0, false)", x.cloud(0, false), 0);
        C.due("cloud(109, false)", x.cloud(109, false), 0);
        C.due("ofBill(1, 0)", x.ofBill(1, 0), MoonVeto.UNKNOWN);
        C.due("trace()", x.trace(), 1);
        C.due("cell(0, 0, 0)", x.cell(0, 0, 0), 'm');
    }

    private static void lanes() {
        C.part("2 a text of each lane, from a cell on");
        String text = "m006013;r10661";
        for (int lane = 0; lane <= 2; lane++) {
            MoonVeto x = new MoonVeto();
            x.sheet(3, lane, 60);
            for (int i = 0; i < text.length(); i++) {
                x.put(3, 5 + i, text.charAt(i));
            }
            C.due("council(3, " + lane + ", 5, 14)", x.council(3, lane, 5, 14), 1);
            C.due("ofBill(0, 0)", x.ofBill(0, 0), 2);
            C.due("council(3, " + lane + ", 5, 15)", x.council(3, lane, 5, 15), -114);
            C.due("council(3, " + lane + ", 4, 14)", x.council(3, lane, 4, 14), -100);
            x.put(3, 6, 304);
            C.due("council with 304 in place of 48", x.council(3, lane, 5, 14), lane == 0 ? 1 : -101);
        }
    }

    private static void ofBill() {
        C.part("3 ofBill");
        MoonVeto x = Checks.of(SIX);
        int[][] want = {{0, 12, 6, 6, 5}, {1, 12, 0, 6, 2}, {2, 30, 6, 0, 3}, {0, 40, 6, 6, 9}, {2, 55, 6, 2, 3}, {0, 70, 1, 6, 5}};
        for (int b = 0; b < 6; b++) {
            for (int what = 0; what < 5; what++) {
                C.due("ofBill(" + b + ", " + what + ")", x.ofBill(b, what), want[b][what]);
            }
        }
        C.due("ofBill(-1, 5)", x.ofBill(-1, 5), MoonVeto.UNKNOWN);
        C.due("ofBill(6, 0)", x.ofBill(6, 0), MoonVeto.UNKNOWN);
        C.due("ofBill(0, -1)", x.ofBill(0, -1), MoonVeto.OUTSIDE);
        C.due("ofBill(0, 5)", x.ofBill(0, 5), MoonVeto.OUTSIDE);
    }

    private static void moon() {
        C.part("4 moon");
        MoonVeto x = Checks.of("m292120;b00661");
        C.due("moon(0)", x.moon(0), 29);
        C.due("moon(1)", x.moon(1), 39);
        C.due("moon(2)", x.moon(2), 50);
        C.due("moon(99)", x.moon(99), 29 + 1039);
        C.due("moon(-1)", x.moon(-1), MoonVeto.OUTSIDE);
        C.due("moon(100)", x.moon(100), MoonVeto.OUTSIDE);
        MoonVeto y = Checks.of("m006010;b00661");
        C.due("moon(0)", y.moon(0), 0);
        C.due("moon(99)", y.moon(99), 5940);
        MoonVeto none = new MoonVeto();
        C.due("moon(0) without a council", none.moon(0), MoonVeto.STATE);
        C.due("moon(100) without a council", none.moon(100), MoonVeto.OUTSIDE);
    }

    private static void span() {
        C.part("5 span");
        MoonVeto x = Checks.of("m002020;b05661");
        C.due("span(4)", x.span(4), 0);
        C.due("struck(0)", x.struck(0), MoonVeto.NONE);
        C.due("span(5)", x.span(5), 4);
        C.due("struck(0)", x.struck(0), 10);
        C.due("span(10)", x.span(10), MoonVeto.OUTSIDE);
        C.due("span(-1)", x.span(-1), MoonVeto.OUTSIDE);
        C.due("many(2)", x.many(2), 5);
        C.due("span(9)", x.span(9), 5);
        C.due("span(9)", x.span(9), 9);
        MoonVeto none = new MoonVeto();
        C.due("span(0) without a council", none.span(0), MoonVeto.STATE);
        C.due("span(10) without a council", none.span(10), MoonVeto.OUTSIDE);
        C.due("many(2) without a council", none.many(2), 0);
    }

    private static void move() {
        C.part("6 move");
        MoonVeto x = Checks.of("m002020;b05661;b06661");
        C.due("move(0, 99)", x.move(0, 99), 5);
        C.due("move(0, 0)", x.move(0, 0), 99);
        C.due("ofBill(0, 1)", x.ofBill(0, 1), 0);
        C.due("ofBill(1, 1)", x.ofBill(1, 1), 6);
        C.due("struck(0)", x.struck(0), 0);
        C.due("move(0, 100)", x.move(0, 100), MoonVeto.OUTSIDE);
        C.due("move(0, -1)", x.move(0, -1), MoonVeto.OUTSIDE);
        C.due("move(2, 100)", x.move(2, 100), MoonVeto.UNKNOWN);
        C.due("move(-1, 0)", x.move(-1, 0), MoonVeto.UNKNOWN);
        C.due("ofBill(0, 1)", x.ofBill(0, 1), 0);
    }

    private static void cloud() {
        C.part("7 cloud");
        MoonVeto x = Checks.of("m002025;b05661");
        C.due("struck(0)", x.struck(0), 10);
        C.due("cloud(10, false)", x.cloud(10, false), 0);
        C.due("cloud(10, true)", x.cloud(10, true), 1);
        C.due("cloud(10, true)", x.cloud(10, true), 0);
        C.due("struck(0)", x.struck(0), MoonVeto.NONE);
        C.due("cloud(7, true)", x.cloud(7, true), 1);
        C.due("cloud(0, true)", x.cloud(0, true), 1);
        C.due("cloud(109, true)", x.cloud(109, true), 1);
        C.due("many(4)", x.many(4), 4);
        C.due("cloud(10, false)", x.cloud(10, false), 1);
        C.due("many(4)", x.many(4), 3);
        C.due("struck(0)", x.struck(0), 10);
        C.due("cloud(-1, true)", x.cloud(-1, true), MoonVeto.OUTSIDE);
        C.due("cloud(110, true)", x.cloud(110, true), MoonVeto.OUTSIDE);
        MoonVeto none = new MoonVeto();
        C.due("cloud(0, false) without a council", none.cloud(0, false), MoonVeto.STATE);
        C.due("cloud(110, true) without a council", none.cloud(110, true), MoonVeto.OUTSIDE);
        C.due("many(4) without a council", none.many(4), 0);
    }
}
