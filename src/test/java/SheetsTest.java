/** Promises 24 to 34: sheet, lose, put, cell, copy, tell, seal, as, trace, fault, many. */
public final class SheetsTest {
    private static final Checks C = new Checks();
    private static final int MIN = Integer.MIN_VALUE, MAX = Integer.MAX_VALUE;
    private static final String KINDS = "m006013;b10665;s20667;r30663";

    public static void main(String[] args) {
        sheet();
        lose();
        put();
        cell();
        copy();
        copyWithin();
        tell();
        seal();
        as();
        traceWraps();
        fault();
        many();
        C.end("SheetsTest");
    }

    private static void sheet() {
        C.part("24 sheet");
        MoonVeto x = new MoonVeto();
        C.due("sheet(0, 2, 60)", x.sheet(0, 2, 60), 1);
        C.due("cell(0, 59, 2)", x.cell(0, 59, 2), 0);
        x.put(0, 59, 7);
        C.due("sheet(0, 2, 61)", x.sheet(0, 2, 61), MoonVeto.OUTSIDE);
        C.due("sheet(0, 3, -1)", x.sheet(0, 3, -1), MoonVeto.OUTSIDE);
        C.due("sheet(0, -1, -1)", x.sheet(0, -1, -1), MoonVeto.OUTSIDE);
        C.due("sheet(4, 3, -1)", x.sheet(4, 3, -1), MoonVeto.UNKNOWN);
        C.due("sheet(-1, 0, 0)", x.sheet(-1, 0, 0), MoonVeto.UNKNOWN);
        C.due("sheet(0, 2, -1)", x.sheet(0, 2, -1), -14);
        C.due("fault()", x.fault(), 4);
        C.due("sheet(0, 2, MIN)", x.sheet(0, 2, MIN), -14);
        C.due("cell(0, 59, 2)", x.cell(0, 59, 2), 7);
        C.due("sheet(0, 2, 60)", x.sheet(0, 2, 60), 1);
        C.due("cell(0, 59, 2) of a new row", x.cell(0, 59, 2), 0);
        x.put(0, 0, 7);
        x.sheet(0, 2, 1);
        C.due("cell(0, 0, 2) of a new row", x.cell(0, 0, 2), 0);
        C.due("sheet(0, 0, 0)", x.sheet(0, 0, 0), 1);
        C.due("put(0, 0, 1)", x.put(0, 0, 1), -13);
        C.due("lose(0): a row of none is a row", x.lose(0), 1);
    }

    private static void lose() {
        C.part("25 lose");
        MoonVeto x = new MoonVeto();
        C.due("lose(3)", x.lose(3), 0);
        x.sheet(3, 1, 2);
        C.due("lose(3)", x.lose(3), 1);
        C.due("lose(3)", x.lose(3), 0);
        C.due("put(3, 0, 1)", x.put(3, 0, 1), -11);
        C.due("lose(4)", x.lose(4), MoonVeto.UNKNOWN);
        C.due("lose(-1)", x.lose(-1), MoonVeto.UNKNOWN);
    }

    private static void put() {
        C.part("26 put");
        MoonVeto x = new MoonVeto();
        int[] values = {0, 127, 128, 255, 256, -129, 32767, 32768, 65535, -32769, MAX, MIN};
        for (int v : values) {
            for (int lane = 0; lane <= 2; lane++) {
                x.sheet(lane, lane, 1);
                C.due("put(" + lane + ", 0, " + v + ")", x.put(lane, 0, v), 1);
                long want = lane == 0 ? (byte) v : lane == 1 ? (short) v : v;
                C.due("cell of " + v, x.cell(lane, 0, lane), want);
            }
        }
        C.due("put(0, 1, 5)", x.put(0, 1, 5), -13);
        C.due("put(0, -1, 5)", x.put(0, -1, 5), -13);
        C.due("put(0, MIN, 5)", x.put(0, MIN, 5), -13);
        C.due("fault()", x.fault(), 3);
        C.due("put(3, -1, 5)", x.put(3, -1, 5), -11);
        C.due("fault()", x.fault(), 1);
        C.due("put(4, -1, 5)", x.put(4, -1, 5), MoonVeto.UNKNOWN);
        C.due("put(-1, 0, 5)", x.put(-1, 0, 5), MoonVeto.UNKNOWN);
        C.due("fault()", x.fault(), 0);
    }

    private static void lost(MoonVeto x, int k, int i, int lane, int fault) {
        String call = "cell(" + k + ", " + i + ", " + lane + ")";
        C.due(call, x.cell(k, i, lane), MoonVeto.LOST);
        C.due("fault() behind " + call, x.fault(), fault);
    }

    private static void cell() {
        C.part("27 cell");
        MoonVeto x = new MoonVeto();
        x.sheet(1, 1, 2);
        x.put(1, 1, -5);
        C.due("cell(1, 1, 1)", x.cell(1, 1, 1), -5);
        lost(x, 1, 5, 0, 2);
        lost(x, 0, 5, 0, 1);
        lost(x, 1, 2, 1, 3);
        lost(x, 1, -1, 1, 3);
        lost(x, 1, 5, 3, 0);
        lost(x, 1, 2, 1, 3);
        lost(x, 1, 5, -1, 0);
        lost(x, 1, 2, 1, 3);
        lost(x, 4, 0, 0, 0);
        lost(x, -1, 0, 0, 0);
        C.due("cell(1, 0, 1)", x.cell(1, 0, 1), 0);
        C.due("fault()", x.fault(), 0);
    }

    private static MoonVeto rows() {
        MoonVeto x = new MoonVeto();
        x.sheet(0, 1, 4);
        x.sheet(1, 1, 3);
        x.sheet(2, 2, 3);
        for (int i = 0; i < 4; i++) {
            x.put(0, i, 10 + i);
        }
        return x;
    }

    private static void copy() {
        C.part("28 copy");
        MoonVeto x = rows();
        C.due("copy(0, 1, 1, 0, 3)", x.copy(0, 1, 1, 0, 3), 3);
        C.due("cell(1, 0, 1)", x.cell(1, 0, 1), 11);
        C.due("cell(1, 2, 1)", x.cell(1, 2, 1), 13);
        C.due("copy(0, 4, 1, 3, 0)", x.copy(0, 4, 1, 3, 0), 0);
        C.due("copy(4, 0, 0, 0, 0)", x.copy(4, 0, 0, 0, 0), MoonVeto.UNKNOWN);
        C.due("copy(0, 0, 4, 0, 0)", x.copy(0, 0, 4, 0, 0), MoonVeto.UNKNOWN);
        C.due("copy(3, 0, -1, 0, 0)", x.copy(3, 0, -1, 0, 0), MoonVeto.UNKNOWN);
        C.due("fault()", x.fault(), 0);
        C.due("copy(3, -1, 0, 0, 0)", x.copy(3, -1, 0, 0, 0), -11);
        C.due("copy(0, -1, 3, 0, 0)", x.copy(0, -1, 3, 0, 0), -11);
        C.due("copy(3, 0, 3, 0, 0)", x.copy(3, 0, 3, 0, 0), -11);
        C.due("fault()", x.fault(), 1);
        C.due("copy(0, -1, 2, 0, -1)", x.copy(0, -1, 2, 0, -1), -12);
        C.due("copy(0, 0, 2, 0, 0)", x.copy(0, 0, 2, 0, 0), -12);
        C.due("fault()", x.fault(), 2);
        int[][] beyond = {{-1, 0, 1}, {0, -1, 1}, {0, 0, -1}, {0, 0, 4}, {2, 0, 3}, {5, 0, 0}, {0, 4, 0},
            {MAX, 0, 1}, {0, MAX, 1}, {1, 1, MAX}, {MIN, 0, 1}, {0, 0, MIN}};
        for (int[] at : beyond) {
            String call = "copy(0, " + at[0] + ", 1, " + at[1] + ", " + at[2] + ")";
            C.due(call, x.copy(0, at[0], 1, at[1], at[2]), -13);
            C.due("fault()", x.fault(), 3);
        }
        C.due("cell(1, 0, 1)", x.cell(1, 0, 1), 11);
    }

    private static void copyWithin() {
        C.part("28 copy within a sheet");
        MoonVeto x = rows();
        C.due("copy(0, 0, 0, 1, 3)", x.copy(0, 0, 0, 1, 3), 3);
        int[] up = {10, 10, 11, 12};
        for (int i = 0; i < 4; i++) {
            C.due("cell(0, " + i + ", 1)", x.cell(0, i, 1), up[i]);
        }
        C.due("copy(0, 1, 0, 0, 3)", x.copy(0, 1, 0, 0, 3), 3);
        int[] down = {10, 11, 12, 12};
        for (int i = 0; i < 4; i++) {
            C.due("cell(0, " + i + ", 1)", x.cell(0, i, 1), down[i]);
        }
    }

    private static int left(int trace, int... numbers) {
        for (int number : numbers) {
            trace = 31 * trace + number;
        }
        return trace;
    }

    private static void tell() {
        C.part("29, 32 tell, trace");
        MoonVeto x = Checks.of(KINDS);
        C.due("trace()", x.trace(), 0);
        C.due("tell(0)", x.tell(0), 5);
        int trace = left(0, 1);
        C.due("trace()", x.trace(), trace);
        C.due("tell(1)", x.tell(1), 107);
        trace = left(trace, 2, 1);
        C.due("trace()", x.trace(), trace);
        C.due("tell(2)", x.tell(2), 106);
        trace = left(trace, 3, 2, 1, 1);
        C.due("trace()", x.trace(), trace);
        C.due("tell(3)", x.tell(3), MoonVeto.UNKNOWN);
        C.due("tell(-1)", x.tell(-1), MoonVeto.UNKNOWN);
        C.due("trace()", x.trace(), trace);
    }

    private static void seal() {
        C.part("30, 32 seal, trace");
        MoonVeto x = Checks.of(KINDS);
        C.due("seal(0)", x.seal(0), 0);
        C.due("trace()", x.trace(), 4);
        C.due("seal(1)", x.seal(1), 1);
        C.due("trace()", x.trace(), left(4, 4));
        C.due("seal(2)", x.seal(2), 40);
        C.due("trace()", x.trace(), left(4, 4, 5));
        C.due("seal(3)", x.seal(3), MoonVeto.UNKNOWN);
        C.due("seal(-1)", x.seal(-1), MoonVeto.UNKNOWN);
        C.due("trace()", x.trace(), left(4, 4, 5));
    }

    private static void as() {
        C.part("31 as");
        MoonVeto x = Checks.of(KINDS);
        for (int b = 0; b < 3; b++) {
            for (int kind = 0; kind < 3; kind++) {
                C.due("as(" + b + ", " + kind + ")", x.as(b, kind), kind <= b ? 1 : -12);
                C.due("fault()", x.fault(), kind <= b ? 0 : 2);
            }
        }
        C.due("as(0, 1)", x.as(0, 1), -12);
        C.due("as(0, 3)", x.as(0, 3), MoonVeto.OUTSIDE);
        C.due("fault()", x.fault(), 0);
        C.due("as(0, -1)", x.as(0, -1), MoonVeto.OUTSIDE);
        C.due("as(0, 1)", x.as(0, 1), -12);
        C.due("as(3, 3)", x.as(3, 3), MoonVeto.UNKNOWN);
        C.due("as(-1, 0)", x.as(-1, 0), MoonVeto.UNKNOWN);
        C.due("fault()", x.fault(), 0);
        C.due("trace()", x.trace(), 0);
    }

    private static void traceWraps() {
        C.part("32 trace");
        MoonVeto x = Checks.of(KINDS);
        int trace = 0;
        for (int k = 0; k < 20; k++) {
            x.tell(2);
            trace = left(trace, 3, 2, 1, 1);
            C.due("trace() of " + k, x.trace(), trace);
        }
        Checks.council(x, KINDS);
        C.due("trace() behind a new council", x.trace(), trace);
    }

    private static void fault() {
        C.part("33 fault");
        MoonVeto x = Checks.of(KINDS);
        C.due("fault()", x.fault(), 0);
        x.put(0, -1, 0);
        C.due("fault()", x.fault(), 3);
        C.due("fault() again", x.fault(), 3);
        x.ofBill(9, 0);
        x.moon(0);
        x.span(4);
        x.move(0, 9);
        x.cloud(1, true);
        x.struck(0);
        x.passing();
        x.force(-1);
        x.holds(7);
        x.buy(0, 3);
        x.when(0, 3);
        x.longest(0, 1);
        x.worth(0);
        x.reading(0, 3, true);
        x.back(1);
        x.spans();
        x.origins();
        x.kinds(0);
        x.moved(0, 0);
        x.odds(9, 0, 0);
        x.lose(3);
        x.tell(0);
        x.seal(0);
        x.trace();
        x.many(9);
        C.due("fault() behind calls that name none", x.fault(), 3);
        x.put(0, 0, 'm');
        C.due("fault() behind one that comes to none", x.fault(), 0);
        x.sheet(0, 0, -1);
        C.due("fault() behind sheet(0, 0, -1)", x.fault(), 4);
        x.sheet(4, 0, -1);
        C.due("fault() behind one that is refused", x.fault(), 0);
        x.as(0, 1);
        C.due("fault() behind as(0, 1)", x.fault(), 2);
        x.council(0, 0, 0, 3);
        C.due("fault() behind a text with a first fault", x.fault(), 0);
        x.as(0, 1);
        x.chronicle(0, 0, 0, 0);
        C.due("fault() behind a chronicle", x.fault(), 0);
        x.as(0, 1);
        x.copy(0, 0, 0, 0, 1);
        C.due("fault() behind a copy", x.fault(), 0);
        x.as(0, 1);
        x.sheet(0, 0, 1);
        C.due("fault() behind a sheet", x.fault(), 0);
    }

    private static void many() {
        C.part("34 many");
        MoonVeto x = Checks.of("m126013;b10665;s20667");
        x.cloud(3, true);
        x.cloud(4, true);
        x.cloud(5, true);
        x.reading(0, 3, true);
        int[] want = {2, 12, 3, 1, 3};
        for (int what = 0; what < 5; what++) {
            C.due("many(" + what + ")", x.many(what), want[what]);
        }
        C.due("many(5)", x.many(5), MoonVeto.OUTSIDE);
        C.due("many(-1)", x.many(-1), MoonVeto.OUTSIDE);
        C.due("many(5) without a council", new MoonVeto().many(5), MoonVeto.OUTSIDE);
    }
}
