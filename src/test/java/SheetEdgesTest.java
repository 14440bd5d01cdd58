/** Promises 24 to 34: the bounds of rows, lanes, copies, of what is told, of TRACE, fault() and many(..). */
public final class SheetEdgesTest {
    private static final Checks C = new Checks();
    private static final int MIN = Integer.MIN_VALUE, MAX = Integer.MAX_VALUE;
    private static final String RARE = "m296010";

    public static void main(String[] args) {
        rowsOfNoneAndOfAll();
        rowsAnew();
        losses();
        cutToBytes();
        cutToShorts();
        notCutOfInts();
        firstAndLastCells();
        copyOfAll();
        copyOfNone();
        copyOverItself();
        copyOfEachLane();
        tellOfEachKind();
        sealOfEachNumber();
        eachIsABill();
        traceWraps();
        theLastCall();
        faultOfTheLatest();
        faultAheadOfAny();
        manyWithoutCouncil();
        manyOfTheMost();
        C.end("SheetEdgesTest");
    }

    private static void rowsOfNoneAndOfAll() {
        C.part("24 \"a row of 0 .. 60 numbers (0 at first)\"");
        for (int k = 0; k < 4; k++) {
            for (int lane = 0; lane <= 2; lane++) {
                MoonVeto x = new MoonVeto();
                C.due("sheet(" + k + ", " + lane + ", 60)", x.sheet(k, lane, 60), 1);
                for (int i = 0; i < 60; i++) {
                    C.due("cell " + i, x.cell(k, i, lane), 0);
                }
                C.due("cell 60", x.cell(k, 60, lane), MoonVeto.LOST);
                C.due("sheet(" + k + ", " + lane + ", 0)", x.sheet(k, lane, 0), 1);
                C.due("cell 0 of none", x.cell(k, 0, lane), MoonVeto.LOST);
                C.due("fault(): a row of none is something", x.fault(), 3);
                C.due("lose(" + k + ")", x.lose(k), 1);
            }
        }
    }

    private static void rowsAnew() {
        C.part("24 \"A SHEET gets a new row\"");
        MoonVeto x = new MoonVeto();
        x.sheet(0, 2, 60);
        for (int i = 0; i < 60; i++) {
            x.put(0, i, 7);
        }
        x.sheet(0, 1, 1);
        C.due("cell(0, 0, 1)", x.cell(0, 0, 1), 0);
        C.due("cell(0, 1, 1)", x.cell(0, 1, 1), MoonVeto.LOST);
        C.due("cell(0, 0, 2): the LANE it had", x.cell(0, 0, 2), MoonVeto.LOST);
        C.due("fault()", x.fault(), 2);
        x.put(0, 0, 40000);
        C.due("cell(0, 0, 1): cut to the new LANE", x.cell(0, 0, 1), 40000 - 65536);
        x.lose(0);
        x.sheet(0, 2, 60);
        for (int i = 0; i < 60; i++) {
            C.due("cell(0, " + i + ", 2) of a row again", x.cell(0, i, 2), 0);
        }
    }

    private static void losses() {
        C.part("25 \"A SHEET has nothing: 1; 0: it had nothing\"");
        MoonVeto x = new MoonVeto();
        for (int k = 0; k < 4; k++) {
            C.due("lose(" + k + ") at first", x.lose(k), 0);
            x.sheet(k, 0, 0);
        }
        C.due("lose(3)", x.lose(3), 1);
        C.due("lose(3) again", x.lose(3), 0);
        C.due("lose(0): the others have theirs", x.lose(0), 1);
        C.due("put(0, 0, 1)", x.put(0, 0, 1), -11);
        C.due("put(1, 0, 1)", x.put(1, 0, 1), -13);
        MoonVeto y = Checks.of(RARE + ";b50669");
        C.due("lose(0) of a TEXT's row", y.lose(0), 1);
        C.due("passing(): the COUNCIL stays", y.passing(), 1);
    }

    private static void cut(int lane, int[][] pairs) {
        for (int[] of : pairs) {
            MoonVeto x = new MoonVeto();
            x.sheet(1, lane, 3);
            C.due("put(1, 1, " + of[0] + ")", x.put(1, 1, of[0]), 1);
            C.due("cell of " + of[0] + ", lane " + lane, x.cell(1, 1, lane), of[1]);
            C.due("the cell ahead", x.cell(1, 0, lane), 0);
            C.due("the cell behind", x.cell(1, 2, lane), 0);
        }
    }

    private static void cutToBytes() {
        C.part("26, 27 \"what comes to a cell of it is cut to its LANE\": bytes");
        cut(0, new int[][] {{127, 127}, {128, -128}, {255, -1}, {256, 0}, {-1, -1}, {-128, -128}, {-129, 127},
            {-256, 0}, {32768, 0}, {383, 127}, {384, -128}, {MAX, -1}, {MIN, 0}});
    }

    private static void cutToShorts() {
        C.part("26, 27 \"what comes to a cell of it is cut to its LANE\": shorts");
        cut(1, new int[][] {{128, 128}, {32767, 32767}, {32768, -32768}, {65535, -1}, {65536, 0}, {-1, -1},
            {-32768, -32768}, {-32769, 32767}, {-65536, 0}, {MAX, -1}, {MIN, 0}});
    }

    private static void notCutOfInts() {
        C.part("26, 27 \"what comes to a cell of it is cut to its LANE\": ints");
        cut(2, new int[][] {{128, 128}, {32768, 32768}, {65536, 65536}, {-1, -1}, {MAX, MAX}, {MIN, MIN}});
    }

    private static void firstAndLastCells() {
        C.part("26, 27 \"Cell i\": the first, the last");
        MoonVeto x = new MoonVeto();
        x.sheet(3, 1, 60);
        C.due("put(3, 0, 5)", x.put(3, 0, 5), 1);
        C.due("put(3, 59, -6)", x.put(3, 59, -6), 1);
        C.due("put(3, 60, 7)", x.put(3, 60, 7), -13);
        C.due("put(3, -1, 7)", x.put(3, -1, 7), -13);
        C.due("cell(3, 0, 1)", x.cell(3, 0, 1), 5);
        C.due("fault()", x.fault(), 0);
        C.due("cell(3, 59, 1)", x.cell(3, 59, 1), -6);
        C.due("cell(3, 58, 1)", x.cell(3, 58, 1), 0);
        x.sheet(3, 1, 59);
        C.due("put(3, 59, 1) of 59", x.put(3, 59, 1), -13);
        C.due("put(3, 58, 1) of 59", x.put(3, 58, 1), 1);
    }

    private static MoonVeto counted(int n) {
        MoonVeto x = new MoonVeto();
        x.sheet(0, 2, n);
        x.sheet(1, 2, n);
        for (int i = 0; i < n; i++) {
            x.put(0, i, 100 + i);
        }
        return x;
    }

    private static void copyOfAll() {
        C.part("28 \"n cells of a SHEET from i on go to another one\": all");
        MoonVeto x = counted(60);
        C.due("copy(0, 0, 1, 0, 60)", x.copy(0, 0, 1, 0, 60), 60);
        for (int i = 0; i < 60; i++) {
            C.due("cell(1, " + i + ", 2)", x.cell(1, i, 2), 100 + i);
            C.due("cell(0, " + i + ", 2)", x.cell(0, i, 2), 100 + i);
        }
        C.due("copy(0, 59, 1, 0, 1)", x.copy(0, 59, 1, 0, 1), 1);
        C.due("cell(1, 0, 2)", x.cell(1, 0, 2), 159);
        C.due("copy(0, 0, 1, 59, 1)", x.copy(0, 0, 1, 59, 1), 1);
        C.due("cell(1, 59, 2)", x.cell(1, 59, 2), 100);
        C.due("copy(0, 1, 1, 0, 60)", x.copy(0, 1, 1, 0, 60), -13);
        C.due("copy(0, 0, 1, 1, 60)", x.copy(0, 0, 1, 1, 60), -13);
        C.due("copy(0, 0, 1, 0, 61)", x.copy(0, 0, 1, 0, 61), -13);
        C.due("cell(1, 59, 2)", x.cell(1, 59, 2), 100);
        C.due("fault()", x.fault(), 0);
    }

    private static void copyOfNone() {
        C.part("28 \"n cells\": none");
        MoonVeto x = counted(3);
        x.sheet(2, 2, 0);
        C.due("copy(0, 3, 1, 3, 0)", x.copy(0, 3, 1, 3, 0), 0);
        C.due("copy(0, 0, 2, 0, 0)", x.copy(0, 0, 2, 0, 0), 0);
        C.due("copy(2, 0, 2, 0, 0)", x.copy(2, 0, 2, 0, 0), 0);
        C.due("copy(2, 0, 0, 3, 0)", x.copy(2, 0, 0, 3, 0), 0);
        C.due("fault()", x.fault(), 0);
        C.due("copy(0, 4, 1, 3, 0)", x.copy(0, 4, 1, 3, 0), -13);
        C.due("copy(0, 3, 1, 4, 0)", x.copy(0, 3, 1, 4, 0), -13);
        C.due("copy(2, 1, 0, 0, 0)", x.copy(2, 1, 0, 0, 0), -13);
        C.due("copy(0, 0, 2, 1, 0)", x.copy(0, 0, 2, 1, 0), -13);
        C.due("fault()", x.fault(), 3);
        C.due("cell(0, 2, 2)", x.cell(0, 2, 2), 102);
    }

    private static void row(MoonVeto x, int... want) {
        for (int i = 0; i < want.length; i++) {
            C.due("cell(0, " + i + ", 2)", x.cell(0, i, 2), want[i]);
        }
    }

    private static void copyOverItself() {
        C.part("28 \"(perhaps the same)\", \"as they were\"");
        MoonVeto up = counted(5);
        C.due("copy(0, 0, 0, 1, 4)", up.copy(0, 0, 0, 1, 4), 4);
        row(up, 100, 100, 101, 102, 103);
        MoonVeto down = counted(5);
        C.due("copy(0, 1, 0, 0, 4)", down.copy(0, 1, 0, 0, 4), 4);
        row(down, 101, 102, 103, 104, 104);
        MoonVeto same = counted(5);
        C.due("copy(0, 0, 0, 0, 5)", same.copy(0, 0, 0, 0, 5), 5);
        row(same, 100, 101, 102, 103, 104);
        MoonVeto apart = counted(5);
        C.due("copy(0, 0, 0, 3, 2)", apart.copy(0, 0, 0, 3, 2), 2);
        row(apart, 100, 101, 102, 100, 101);
    }

    private static void copyOfEachLane() {
        C.part("28 \"CAST (unlike LANES)\"");
        for (int from = 0; from <= 2; from++) {
            for (int to = 0; to <= 2; to++) {
                MoonVeto x = new MoonVeto();
                x.sheet(2, from, 2);
                x.sheet(3, to, 2);
                x.put(2, 1, -3);
                C.due("copy of lane " + from + " to " + to, x.copy(2, 1, 3, 0, 1), from == to ? 1 : -12);
                C.due("fault()", x.fault(), from == to ? 0 : 2);
                C.due("cell(3, 0, " + to + ")", x.cell(3, 0, to), from == to ? -3 : 0);
            }
        }
    }

    private static int left(int trace, int... numbers) {
        long all = trace;
        for (int number : numbers) {
            all = (int) (31L * all + number);
        }
        return (int) all;
    }

    private static void tellOfEachKind() {
        C.part("29, 32 \"BILL (1): LASTS. SUNSET (2): what BILL's gives, and 100. REPEAL (3): ..\"");
        for (int lasts = 1; lasts <= 9; lasts++) {
            MoonVeto x = Checks.of(RARE + ";b5066" + lasts + ";s5066" + lasts + ";r5066" + lasts);
            C.due("tell(0) of " + lasts, x.tell(0), lasts);
            C.due("trace()", x.trace(), 1);
            C.due("tell(1) of " + lasts, x.tell(1), 100 + lasts);
            C.due("trace()", x.trace(), left(1, 2, 1));
            C.due("tell(2) of " + lasts, x.tell(2), 100 + 2 * lasts);
            C.due("trace()", x.trace(), left(1, 2, 1, 3, 2, 1, 1));
        }
        C.due("tell(0) of one that is STRUCK", Checks.of(RARE + ";b29664").tell(0), 4);
    }

    private static void sealOfEachNumber() {
        C.part("30, 32 \"SEALED by a lent body (4): its number; REPEALS have their own (5): 40\"");
        MoonVeto x = Checks.of(RARE + ";b50661;s50661;b50661;s50661;b50661;s50661");
        int trace = 0;
        for (int b = 0; b < 6; b++) {
            C.due("seal(" + b + ")", x.seal(b), b);
            trace = left(trace, 4);
            C.due("trace()", x.trace(), trace);
        }
        MoonVeto repeals = Checks.of(RARE + ";r50661;r50661;r50661;r50661;r50661;r50661");
        trace = 0;
        for (int b = 0; b < 6; b++) {
            C.due("seal(" + b + ") of a REPEAL", repeals.seal(b), 40);
            trace = left(trace, 5);
            C.due("trace()", repeals.trace(), trace);
        }
    }

    private static void eachIsABill() {
        C.part("31 \"each is a BILL, too; a REPEAL is a SUNSET\"");
        MoonVeto x = Checks.of(RARE + ";b50661;s50661;r50661");
        int[][] want = {{1, -12, -12}, {1, 1, -12}, {1, 1, 1}};
        for (int b = 0; b < 3; b++) {
            for (int kind = 0; kind <= 2; kind++) {
                C.due("as(" + b + ", " + kind + ")", x.as(b, kind), want[b][kind]);
                C.due("fault()", x.fault(), want[b][kind] == 1 ? 0 : 2);
            }
        }
        C.due("ofBill(2, 0): it stays of its kind", x.ofBill(2, 0), 2);
        C.due("trace()", x.trace(), 0);
    }

    private static void traceWraps() {
        C.part("32 \"an int that wraps, 0 at first, becomes 31 times it and the number\"");
        MoonVeto x = Checks.of(RARE + ";b50661;s50661;r50661");
        long whole = 0;
        int trace = 0;
        for (int k = 1; k <= 12; k++) {
            x.seal(2);
            whole = 31 * whole + 5;
            trace = (int) whole;
            C.due("trace() of " + k, x.trace(), trace);
        }
        C.due("trace() has wrapped", whole == trace ? 1 : 0, 0);
        x.tell(3);
        x.seal(-1);
        x.as(0, 2);
        x.trace();
        C.due("trace() behind calls that leave nothing", x.trace(), trace);
    }

    private static void theLastCall() {
        C.part("\"An object is used for at most 512 calls\"");
        MoonVeto x = Checks.of(RARE + ";b50661");
        int made = 1 + 14 + 1;
        int trace = 0;
        for (; made < 511; made++) {
            x.tell(0);
            trace = left(trace, 1);
        }
        C.due("trace(), the last call", x.trace(), trace);
    }

    private static void faultOfTheLatest() {
        C.part("33 \"The FAULT of the latest call that names one: 0: it came to none, or was refused\"");
        MoonVeto x = Checks.of(RARE + ";b50661");
        x.sheet(1, 1, 1);
        int[] want = {1, 2, 3, 4, 0};
        for (int call = 0; call < 7; call++) {
            for (int way = 0; way < 5; way++) {
                if (comesTo(x, call, way)) {
                    C.due("fault() of call " + call + ", way " + way, x.fault(), want[way]);
                    x.many(9);
                    x.lose(4);
                    C.due("fault() behind calls that name none", x.fault(), want[way]);
                }
            }
        }
    }

    /** Calls that name FAULTS, each in the ways that it can end: FAULTS 1 to 4 (ways 0 to 3), none (4). */
    private static boolean comesTo(MoonVeto x, int call, int way) {
        int sheet = way == 0 ? 3 : 1;
        int lane = way == 1 ? 2 : 1;
        int i = way == 2 ? 2 : 0;
        int n = way == 3 ? -1 : 0;
        switch (call) {
            case 0: x.council(sheet, lane, i, n); return true;
            case 1: x.chronicle(sheet, lane, i, n); return true;
            case 2: x.sheet(2, 0, n); return way >= 3;
            case 3: x.put(sheet, i, 0); return way != 1 && way != 3;
            case 4: x.cell(sheet, i, lane); return way != 3;
            case 5: x.copy(sheet, i, way == 1 ? 0 : 1, 0, 0); return way != 3;
            default: x.as(0, way == 1 ? 1 : 0); return way == 1 || way == 4;
        }
    }

    private static void faultAheadOfAny() {
        C.part("33 \"(0 ahead of any)\"");
        MoonVeto x = new MoonVeto();
        C.due("fault()", x.fault(), 0);
        x.moon(0);
        x.lose(0);
        x.back(1);
        C.due("fault()", x.fault(), 0);
        x.put(0, 0, 0);
        C.due("fault()", x.fault(), 1);
        C.due("fault() of another object", new MoonVeto().fault(), 0);
        x.put(4, 0, 0);
        C.due("fault() behind a refusal", x.fault(), 0);
    }

    private static void manyWithoutCouncil() {
        C.part("34 \"(0 all without a COUNCIL)\"");
        MoonVeto x = new MoonVeto();
        Checks.council(x, "m296019;b5066");
        x.span(5);
        x.cloud(5, true);
        x.reading(0, 5, true);
        for (int what = 0; what <= 4; what++) {
            C.due("many(" + what + ")", x.many(what), 0);
        }
    }

    private static void manyOfTheMost() {
        C.part("34 \"0 BILLS, 1 where it BEGINS, 2 SPAN, 3 READINGS, 4 nights that are CLOUDED\"");
        MoonVeto x = Checks.of("m296019;b50661;b50661;b50661;b50661;b50661;b50661");
        for (int k = 0; k < 8; k++) {
            x.reading(k % 6, k, false);
        }
        for (int day = 0; day <= 109; day++) {
            x.cloud(day, true);
        }
        int[] want = {6, 29, 9, 8, 110};
        for (int what = 0; what <= 4; what++) {
            C.due("many(" + what + ")", x.many(what), want[what]);
        }
    }
}
