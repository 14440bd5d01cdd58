/**
 * Refused calls and calls that come to a FAULT, promise by promise: the answer, what fault() tells then, and
 * that nothing else is changed. Each call is made on an object of its own.
 */
public final class RefusalsTest {
    private static final Checks C = new Checks();
    private static final int MIN = Integer.MIN_VALUE, MAX = Integer.MAX_VALUE;
    private static final int UNKNOWN = MoonVeto.UNKNOWN, OUTSIDE = MoonVeto.OUTSIDE, STATE = MoonVeto.STATE;
    private static final int NULL = 1, CAST = 2, INDEX = 3, SIZE = 4;
    private static final int[] NO_SHEETS = {-1, 4, MIN, MAX};
    private static final int[] NO_BILLS = {-1, 6, MIN, MAX};
    private static final int[] NO_DAYS = {-1, 110, MIN, MAX};
    private static final int[] NO_MOVES = {-1, 100, MIN, MAX};
    private static final int[] NO_LANES = {-1, 3, MIN, MAX};
    private static final int[] NO_PLACES = {-1, 3, MIN, MAX};

    private interface Call {
        long on(MoonVeto x);
    }

    private interface Maker {
        MoonVeto make();
    }

    private static Maker maker = RefusalsTest::furnished;

    public static void main(String[] args) {
        ofCouncil();
        ofTexts();
        ofBills();
        ofDays();
        ofChronicle();
        ofTrials();
        ofReadings();
        ofOdds();
        ofSheets();
        ofCells();
        ofCopies();
        ofParts();
        withoutCouncil();
        ofRowsWithoutCouncil();
        whenFull();
        C.end("RefusalsTest");
    }

    /** With something of everything: sheet 0 bytes, 1 shorts, 2 a row of none, 3 nothing; fault() is INDEX. */
    private static MoonVeto furnished() {
        MoonVeto x = Checks.of("m055925;b12665;s12062;r30603;b40669;r55623;b70165");
        x.span(4);
        x.move(3, 41);
        x.cloud(34, true);
        x.cloud(7, true);
        x.reading(0, 20, true);
        x.reading(2, 40, true);
        x.tell(2);
        x.seal(0);
        return withRows(x);
    }

    private static MoonVeto bare() {
        return withRows(new MoonVeto());
    }

    private static MoonVeto full() {
        MoonVeto x = furnished();
        for (int k = 2; k < 8; k++) {
            x.reading(k - 2, 10 * k, false);
        }
        return x;
    }

    private static MoonVeto withRows(MoonVeto x) {
        x.sheet(1, 1, 3);
        x.put(1, 0, 1000);
        x.put(1, 2, -7);
        x.sheet(2, 2, 0);
        x.put(1, 3, 0);
        return x;
    }

    /** All that can be looked at without changing it, but fault(). */
    private static String look(MoonVeto x) {
        StringBuilder s = new StringBuilder();
        for (int what = 0; what <= 4; what++) {
            s.append(x.many(what)).append(' ');
        }
        for (int b = 0; b < 6; b++) {
            for (int what = 0; what <= 4; what++) {
                s.append(x.ofBill(b, what)).append(' ');
            }
            s.append(x.struck(b)).append(' ').append(x.holds(b)).append(' ').append(x.kinds(b)).append(' ');
            s.append(x.moved(b, 0)).append(' ').append(x.moved(b, 1)).append(' ');
        }
        s.append(x.moon(0)).append(' ').append(x.moon(1)).append(' ').append(x.spans()).append(' ');
        s.append(x.origins()).append(' ').append(x.passing()).append(' ').append(x.trace()).append(' ');
        for (int k = 0; k < 4; k++) {
            for (int lane = 0; lane <= 2; lane++) {
                for (int i = 0; i < 60 && (i == 0 || x.fault() == 0); i++) {
                    s.append(x.cell(k, i, lane)).append(' ').append(x.fault()).append(' ');
                }
            }
        }
        return s.toString();
    }

    private static void unchanged(String call, Call made, long answer, int fault) {
        MoonVeto x = maker.make();
        C.due(call, made.on(x), answer);
        C.due("fault() behind " + call, x.fault(), fault);
        C.due(call + " changes nothing", look(x).equals(look(maker.make())) ? 1 : 0, 1);
    }

    /** A refusal of a call that names no FAULTS, so fault() stays as it was. */
    private static void refused(String call, Call made, long answer) {
        unchanged(call, made, answer, INDEX);
    }

    private static void refusedOfFaults(String call, Call made, long answer) {
        unchanged(call, made, answer, 0);
    }

    private static void fails(String call, Call made, int fault) {
        unchanged(call, made, -10 - fault, fault);
    }

    private static String at(String name, int... numbers) {
        StringBuilder s = new StringBuilder(name).append('(');
        for (int k = 0; k < numbers.length; k++) {
            s.append(k == 0 ? "" : ", ").append(numbers[k]);
        }
        return s.append(')').toString();
    }

    private static void council(int sheet, int lane, int i, int n, int fault) {
        fails(at("council", sheet, lane, i, n), x -> x.council(sheet, lane, i, n), fault);
    }

    private static void ofCouncil() {
        C.part("2 UNKNOWN; OUTSIDE: lane");
        for (int k : NO_SHEETS) {
            refusedOfFaults(at("council", k, 0, 0, 14), x -> x.council(k, 0, 0, 14), UNKNOWN);
            refusedOfFaults(at("council", k, 3, -1, -1), x -> x.council(k, 3, -1, -1), UNKNOWN);
        }
        for (int lane : NO_LANES) {
            for (int k = 0; k < 4; k++) {
                int sheet = k;
                refusedOfFaults(at("council", k, lane, -1, -1), x -> x.council(sheet, lane, -1, -1), OUTSIDE);
            }
        }
        C.part("2 FAULTS CAST (nothing is no CAST), NULL");
        for (int lane = 0; lane <= 2; lane++) {
            for (int k = 0; k <= 2; k++) {
                if (lane != k) {
                    council(k, lane, 0, 0, CAST);
                    council(k, lane, -1, -1, CAST);
                }
            }
            council(3, lane, 0, 0, NULL);
            council(3, lane, -1, -1, NULL);
        }
        C.part("2 SIZE: n is below 0");
        council(0, 0, 0, -1, SIZE);
        council(0, 0, 0, MIN, SIZE);
        council(0, 0, -1, -1, SIZE);
        council(0, 0, 50, -1, SIZE);
        council(2, 2, 0, -1, SIZE);
        C.part("2 INDEX: not all cells are there");
        int[][] beyond = {{-1, 14}, {-1, 1}, {0, 50}, {1, 49}, {36, 14}, {49, 1}, {50, 0}, {-1, 0}, {MIN, 0},
            {MAX, 0}, {MAX, MAX}, {1, MAX}, {MIN, MAX}, {-14, 14}};
        for (int[] of : beyond) {
            council(0, 0, of[0], of[1], INDEX);
        }
        council(2, 2, 0, 1, INDEX);
        council(2, 2, 1, 0, INDEX);
    }

    private static void ofTexts() {
        C.part("2 -100 less the FIRST FAULT");
        refusedOfFaults("council(0, 0, 49, 0)", x -> x.council(0, 0, 49, 0), -100);
        refusedOfFaults("council(2, 2, 0, 0)", x -> x.council(2, 2, 0, 0), -100);
        refusedOfFaults("council(0, 0, 0, 13)", x -> x.council(0, 0, 0, 13), -113);
        refusedOfFaults("council(0, 0, 0, 48)", x -> x.council(0, 0, 0, 48), -148);
        refusedOfFaults("council(0, 0, 7, 14)", x -> x.council(0, 0, 7, 14), -100);
        refusedOfFaults("council(1, 1, 0, 3)", x -> x.council(1, 1, 0, 3), -100);
    }

    private static void ofBills() {
        for (int b : NO_BILLS) {
            C.part("3, 6, 8, 11, 16, 21, 29, 30 UNKNOWN");
            refused(at("ofBill", b, 0), x -> x.ofBill(b, 0), UNKNOWN);
            refused(at("ofBill", b, 5), x -> x.ofBill(b, 5), UNKNOWN);
            refused(at("move", b, 0), x -> x.move(b, 0), UNKNOWN);
            refused(at("move", b, 100), x -> x.move(b, 100), UNKNOWN);
            refused(at("struck", b), x -> x.struck(b), UNKNOWN);
            refused(at("holds", b), x -> x.holds(b), UNKNOWN);
            refused(at("worth", b), x -> x.worth(b), UNKNOWN);
            refused(at("kinds", b), x -> x.kinds(b), UNKNOWN);
            refused(at("tell", b), x -> x.tell(b), UNKNOWN);
            refused(at("seal", b), x -> x.seal(b), UNKNOWN);
        }
        C.part("3 OUTSIDE");
        for (int what : new int[] {-1, 5, MIN, MAX}) {
            refused(at("ofBill", 0, what), x -> x.ofBill(0, what), OUTSIDE);
        }
        C.part("6 OUTSIDE");
        for (int day : NO_MOVES) {
            refused(at("move", 0, day), x -> x.move(0, day), OUTSIDE);
        }
    }

    private static void ofDays() {
        C.part("4, 5, 7, 10, 34 OUTSIDE");
        for (int n : new int[] {-1, 100, MIN, MAX}) {
            refused(at("moon", n), x -> x.moon(n), OUTSIDE);
        }
        for (int v : new int[] {-1, 10, MIN, MAX}) {
            refused(at("span", v), x -> x.span(v), OUTSIDE);
        }
        for (int day : NO_DAYS) {
            refused("cloud(" + day + ", true)", x -> x.cloud(day, true), OUTSIDE);
            refused("cloud(" + day + ", false)", x -> x.cloud(day, false), OUTSIDE);
            refused(at("force", day), x -> x.force(day), OUTSIDE);
        }
        for (int what : new int[] {-1, 5, MIN, MAX}) {
            refused(at("many", what), x -> x.many(what), OUTSIDE);
        }
    }

    private static void chronicle(int sheet, int lane, int i, int n, int fault) {
        fails(at("chronicle", sheet, lane, i, n), x -> x.chronicle(sheet, lane, i, n), fault);
    }

    private static void ofChronicle() {
        C.part("12 UNKNOWN: SHEET; OUTSIDE: lane");
        for (int k : NO_SHEETS) {
            refusedOfFaults(at("chronicle", k, 0, 0, 0), x -> x.chronicle(k, 0, 0, 0), UNKNOWN);
            refusedOfFaults(at("chronicle", k, 3, -1, -1), x -> x.chronicle(k, 3, -1, -1), UNKNOWN);
        }
        for (int lane : NO_LANES) {
            refusedOfFaults(at("chronicle", 1, lane, 0, 0), x -> x.chronicle(1, lane, 0, 0), OUTSIDE);
            refusedOfFaults(at("chronicle", 3, lane, -1, -1), x -> x.chronicle(3, lane, -1, -1), OUTSIDE);
        }
        faultsOfChronicle();
    }

    private static void faultsOfChronicle() {
        C.part("12 FAULTS CAST, NULL, SIZE, INDEX");
        chronicle(1, 0, 0, 0, CAST);
        chronicle(1, 2, -1, -1, CAST);
        chronicle(2, 1, 0, 0, CAST);
        for (int lane = 0; lane <= 2; lane++) {
            chronicle(3, lane, -1, -1, NULL);
        }
        chronicle(1, 1, 0, -1, SIZE);
        chronicle(1, 1, -1, MIN, SIZE);
        chronicle(1, 1, 4, -1, SIZE);
        int[][] beyond = {{-1, 0}, {-1, 1}, {4, 0}, {3, 1}, {0, 4}, {1, 3}, {MIN, 0}, {MAX, MAX}, {3, MAX}};
        for (int[] of : beyond) {
            chronicle(1, 1, of[0], of[1], INDEX);
        }
        chronicle(2, 2, 0, 1, INDEX);
    }

    private static void ofTrials() {
        C.part("13, 14, 15 UNKNOWN");
        for (int b : NO_BILLS) {
            refused(at("buy", b, 0), x -> x.buy(b, 0), UNKNOWN);
            refused(at("buy", b, 110), x -> x.buy(b, 110), UNKNOWN);
            refused(at("when", b, 0), x -> x.when(b, 0), UNKNOWN);
            refused(at("when", b, 110), x -> x.when(b, 110), UNKNOWN);
            refused(at("longest", b, 0), x -> x.longest(b, 0), UNKNOWN);
            refused(at("longest", b, 2), x -> x.longest(b, 2), UNKNOWN);
        }
        C.part("13, 14, 15 OUTSIDE");
        for (int day : NO_DAYS) {
            refused(at("buy", 0, day), x -> x.buy(0, day), OUTSIDE);
            refused(at("when", 0, day), x -> x.when(0, day), OUTSIDE);
        }
        for (int what : new int[] {-1, 2, MIN, MAX}) {
            refused(at("longest", 0, what), x -> x.longest(0, what), OUTSIDE);
        }
    }

    private static void ofReadings() {
        C.part("17, 22 UNKNOWN");
        for (int b : NO_BILLS) {
            refused("reading(" + b + ", 0, true)", x -> x.reading(b, 0, true), UNKNOWN);
            refused("reading(" + b + ", 110, false)", x -> x.reading(b, 110, false), UNKNOWN);
            refused(at("moved", b, 0), x -> x.moved(b, 0), UNKNOWN);
            refused(at("moved", b, 2), x -> x.moved(b, 2), UNKNOWN);
        }
        C.part("17 OUTSIDE: day (0 .. 109)");
        for (int day : NO_DAYS) {
            refused("reading(0, " + day + ", true)", x -> x.reading(0, day, true), OUTSIDE);
        }
        C.part("18 OUTSIDE: k is not 0 .. as many as there are");
        for (int k : new int[] {-1, 3, 8, MIN, MAX}) {
            refused(at("back", k), x -> x.back(k), OUTSIDE);
        }
        C.part("22 OUTSIDE");
        for (int what : new int[] {-1, 2, MIN, MAX}) {
            refused(at("moved", 0, what), x -> x.moved(0, what), OUTSIDE);
        }
    }

    private static void ofOdds() {
        C.part("23 LOST: UNKNOWN; OUTSIDE: day (0 .. 109), which");
        for (int b : NO_BILLS) {
            refused(at("odds", b, 0, 0), x -> x.odds(b, 0, 0), MoonVeto.LOST);
        }
        for (int day : NO_DAYS) {
            refused(at("odds", 0, day, 0), x -> x.odds(0, day, 0), MoonVeto.LOST);
        }
        for (int which : new int[] {-1, 2, MIN, MAX}) {
            refused(at("odds", 0, 0, which), x -> x.odds(0, 0, which), MoonVeto.LOST);
        }
    }

    private static void ofSheets() {
        C.part("24 UNKNOWN; OUTSIDE: lane, n above 60; SIZE");
        for (int k : NO_SHEETS) {
            refusedOfFaults(at("sheet", k, 0, 1), x -> x.sheet(k, 0, 1), UNKNOWN);
            refusedOfFaults(at("sheet", k, 3, -1), x -> x.sheet(k, 3, -1), UNKNOWN);
        }
        for (int k = 0; k < 4; k++) {
            int sheet = k;
            for (int lane : NO_LANES) {
                refusedOfFaults(at("sheet", k, lane, -1), x -> x.sheet(sheet, lane, -1), OUTSIDE);
            }
            for (int n : new int[] {61, MAX}) {
                refusedOfFaults(at("sheet", k, 1, n), x -> x.sheet(sheet, 1, n), OUTSIDE);
            }
            for (int n : new int[] {-1, MIN}) {
                fails(at("sheet", k, 1, n), x -> x.sheet(sheet, 1, n), SIZE);
            }
        }
        C.part("25 UNKNOWN");
        for (int k : NO_SHEETS) {
            refused(at("lose", k), x -> x.lose(k), UNKNOWN);
        }
    }

    private static void ofCells() {
        C.part("26 UNKNOWN; NULL; INDEX");
        for (int k : NO_SHEETS) {
            refusedOfFaults(at("put", k, -1, 5), x -> x.put(k, -1, 5), UNKNOWN);
        }
        for (int i : NO_PLACES) {
            fails(at("put", 1, i, 5), x -> x.put(1, i, 5), INDEX);
            fails(at("put", 3, i, 5), x -> x.put(3, i, 5), NULL);
        }
        fails("put(2, 0, 5)", x -> x.put(2, 0, 5), INDEX);
        fails("put(3, 0, 5)", x -> x.put(3, 0, 5), NULL);
        C.part("27 LOST: UNKNOWN, OUTSIDE: lane; FAULTS CAST (nothing is no CAST), NULL, INDEX");
        for (int k : NO_SHEETS) {
            unchanged(at("cell", k, 0, 3), x -> x.cell(k, 0, 3), MoonVeto.LOST, 0);
        }
        for (int lane : NO_LANES) {
            unchanged(at("cell", 1, 0, lane), x -> x.cell(1, 0, lane), MoonVeto.LOST, 0);
            unchanged(at("cell", 3, 0, lane), x -> x.cell(3, 0, lane), MoonVeto.LOST, 0);
        }
        for (int i : NO_PLACES) {
            unchanged(at("cell", 1, i, 0), x -> x.cell(1, i, 0), MoonVeto.LOST, CAST);
            unchanged(at("cell", 1, i, 2), x -> x.cell(1, i, 2), MoonVeto.LOST, CAST);
            unchanged(at("cell", 3, i, 1), x -> x.cell(3, i, 1), MoonVeto.LOST, NULL);
            unchanged(at("cell", 1, i, 1), x -> x.cell(1, i, 1), MoonVeto.LOST, INDEX);
        }
        unchanged("cell(2, 0, 2)", x -> x.cell(2, 0, 2), MoonVeto.LOST, INDEX);
        unchanged("cell(2, 0, 1)", x -> x.cell(2, 0, 1), MoonVeto.LOST, CAST);
    }

    private static void copy(int k, int i, int other, int j, int n, int fault) {
        fails(at("copy", k, i, other, j, n), x -> x.copy(k, i, other, j, n), fault);
    }

    private static void ofCopies() {
        C.part("28 UNKNOWN");
        for (int k : NO_SHEETS) {
            refusedOfFaults(at("copy", k, 0, 3, 0, -1), x -> x.copy(k, 0, 3, 0, -1), UNKNOWN);
            refusedOfFaults(at("copy", 3, 0, k, 0, -1), x -> x.copy(3, 0, k, 0, -1), UNKNOWN);
            refusedOfFaults(at("copy", k, 0, k, 0, 0), x -> x.copy(k, 0, k, 0, 0), UNKNOWN);
        }
        C.part("28 FAULTS NULL (the first, the other), CAST (unlike LANES)");
        copy(3, 0, 1, 0, 1, NULL);
        copy(1, 0, 3, 0, 1, NULL);
        copy(3, -1, 3, -1, -1, NULL);
        copy(1, -1, 3, -1, -1, NULL);
        copy(1, 0, 2, 0, 0, CAST);
        copy(2, -1, 1, -1, -1, CAST);
        copy(0, 0, 1, 0, 1, CAST);
        C.part("28 INDEX: i, j, n below 0 or beyond");
        int[][] beyond = {{-1, 0, 1}, {0, -1, 1}, {0, 0, -1}, {0, 0, 4}, {1, 0, 3}, {0, 1, 3}, {4, 0, 0}, {0, 4, 0},
            {-1, 0, 0}, {0, -1, 0}, {3, 0, 1}, {0, 3, 1}, {MAX, 0, 1}, {0, MAX, 1}, {1, 1, MAX}, {MAX, MAX, MAX},
            {MIN, 0, 0}, {0, MIN, 0}, {0, 0, MIN}, {3, 3, -1}};
        for (int[] of : beyond) {
            copy(1, of[0], 1, of[1], of[2], INDEX);
        }
        copy(2, 0, 2, 0, 1, INDEX);
    }

    private static void ofParts() {
        C.part("31 UNKNOWN; OUTSIDE; CAST");
        for (int b : NO_BILLS) {
            refusedOfFaults(at("as", b, 0), x -> x.as(b, 0), UNKNOWN);
            refusedOfFaults(at("as", b, 3), x -> x.as(b, 3), UNKNOWN);
        }
        for (int kind : new int[] {-1, 3, MIN, MAX}) {
            refusedOfFaults(at("as", 0, kind), x -> x.as(0, kind), OUTSIDE);
        }
        fails("as(0, 1)", x -> x.as(0, 1), CAST);
        fails("as(0, 2)", x -> x.as(0, 2), CAST);
        fails("as(1, 2)", x -> x.as(1, 2), CAST);
    }

    private static void withoutCouncil() {
        maker = RefusalsTest::bare;
        C.part("4, 5, 7, 9, 10, 19, 20 STATE: there is no COUNCIL");
        refused("moon(0)", x -> x.moon(0), STATE);
        refused("moon(99)", x -> x.moon(99), STATE);
        refused("span(0)", x -> x.span(0), STATE);
        refused("span(9)", x -> x.span(9), STATE);
        refused("cloud(0, true)", x -> x.cloud(0, true), STATE);
        refused("cloud(109, false)", x -> x.cloud(109, false), STATE);
        refused("passing()", x -> x.passing(), STATE);
        refused("force(0)", x -> x.force(0), STATE);
        refused("force(109)", x -> x.force(109), STATE);
        refused("spans()", x -> x.spans(), STATE);
        refused("origins()", x -> x.origins(), STATE);
        C.part("4, 5, 7, 10 OUTSIDE, ahead of STATE");
        refused("moon(-1)", x -> x.moon(-1), OUTSIDE);
        refused("moon(100)", x -> x.moon(100), OUTSIDE);
        refused("span(-1)", x -> x.span(-1), OUTSIDE);
        refused("span(10)", x -> x.span(10), OUTSIDE);
        refused("cloud(-1, true)", x -> x.cloud(-1, true), OUTSIDE);
        refused("cloud(110, false)", x -> x.cloud(110, false), OUTSIDE);
        refused("force(-1)", x -> x.force(-1), OUTSIDE);
        refused("force(110)", x -> x.force(110), OUTSIDE);
        C.part("18 OUTSIDE: there are no READINGS");
        refused("back(1)", x -> x.back(1), OUTSIDE);
        refused("back(-1)", x -> x.back(-1), OUTSIDE);
        billsWithoutCouncil();
    }

    private static void billsWithoutCouncil() {
        C.part("UNKNOWN: no COUNCIL (no BILLS)");
        refused("ofBill(0, 5)", x -> x.ofBill(0, 5), UNKNOWN);
        refused("move(0, 100)", x -> x.move(0, 100), UNKNOWN);
        refused("struck(0)", x -> x.struck(0), UNKNOWN);
        refused("holds(0)", x -> x.holds(0), UNKNOWN);
        refused("buy(0, 110)", x -> x.buy(0, 110), UNKNOWN);
        refused("when(0, 110)", x -> x.when(0, 110), UNKNOWN);
        refused("longest(0, 2)", x -> x.longest(0, 2), UNKNOWN);
        refused("worth(0)", x -> x.worth(0), UNKNOWN);
        refused("reading(0, 110, true)", x -> x.reading(0, 110, true), UNKNOWN);
        refused("kinds(0)", x -> x.kinds(0), UNKNOWN);
        refused("moved(0, 2)", x -> x.moved(0, 2), UNKNOWN);
        refused("odds(0, 0, 0)", x -> x.odds(0, 0, 0), MoonVeto.LOST);
        refused("tell(0)", x -> x.tell(0), UNKNOWN);
        refused("seal(0)", x -> x.seal(0), UNKNOWN);
        refusedOfFaults("as(0, 3)", x -> x.as(0, 3), UNKNOWN);
    }

    private static void ofRowsWithoutCouncil() {
        C.part("12 STATE: there is no COUNCIL, behind the FAULTS");
        refusedOfFaults("chronicle(1, 1, 0, 3)", x -> x.chronicle(1, 1, 0, 3), STATE);
        refusedOfFaults("chronicle(1, 1, 3, 0)", x -> x.chronicle(1, 1, 3, 0), STATE);
        refusedOfFaults("chronicle(2, 2, 0, 0)", x -> x.chronicle(2, 2, 0, 0), STATE);
        refusedOfFaults("chronicle(4, 1, 0, 3)", x -> x.chronicle(4, 1, 0, 3), UNKNOWN);
        refusedOfFaults("chronicle(1, 3, 0, 3)", x -> x.chronicle(1, 3, 0, 3), OUTSIDE);
        faultsOfChronicle();
        C.part("2 -100 less the FIRST FAULT, without a COUNCIL");
        refusedOfFaults("council(1, 1, 0, 3)", x -> x.council(1, 1, 0, 3), -100);
        refusedOfFaults("council(2, 2, 0, 0)", x -> x.council(2, 2, 0, 0), -100);
    }

    private static void whenFull() {
        maker = RefusalsTest::full;
        C.part("17 UNKNOWN; OUTSIDE: day (0 .. 109); FULL");
        refused("reading(0, 20, true), a ninth", x -> x.reading(0, 20, true), MoonVeto.FULL);
        refused("reading(5, 109, false), a ninth", x -> x.reading(5, 109, false), MoonVeto.FULL);
        refused("reading(0, 110, true), a ninth", x -> x.reading(0, 110, true), OUTSIDE);
        refused("reading(0, -1, true), a ninth", x -> x.reading(0, -1, true), OUTSIDE);
        refused("reading(6, 110, true), a ninth", x -> x.reading(6, 110, true), UNKNOWN);
        C.part("18 OUTSIDE: more than the 8 that there are");
        refused("back(9)", x -> x.back(9), OUTSIDE);
    }
}
