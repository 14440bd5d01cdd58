/** Promises 8 to 12: struck, passing, force, holds, chronicle. */
public final class DaysTest {
    private static final Checks C = new Checks();

    public static void main(String[] args) {
        struck();
        needs();
        sunset();
        repeal();
        refusals();
        chronicle();
        refusalsOfChronicle();
        C.end("DaysTest");
    }

    private static void struck() {
        C.part("8 struck");
        MoonVeto x = Checks.of("m002020;b10661");
        C.due("struck(0) on the day itself", x.struck(0), 10);
        x.move(0, 11);
        C.due("struck(0) on a day behind", x.struck(0), MoonVeto.NONE);
        x.span(8);
        C.due("struck(0) with a moon behind the span", x.struck(0), MoonVeto.NONE);
        x.span(9);
        C.due("struck(0) with a moon on the last day", x.struck(0), 20);
        x.move(0, 99);
        C.due("struck(0) of day 99", x.struck(0), 100);
        x.cloud(100, true);
        C.due("struck(0) with a cloud", x.struck(0), MoonVeto.NONE);
        MoonVeto late = Checks.of("m292029;b00661");
        C.due("struck(0) ahead of the first moon", late.struck(0), MoonVeto.NONE);
        late.move(0, 19);
        C.due("struck(0) ahead of the first moon", late.struck(0), MoonVeto.NONE);
        late.move(0, 20);
        C.due("struck(0) by the first moon", late.struck(0), 29);
        MoonVeto needy = Checks.of("m002020;b11061");
        C.due("struck(0) of one that does not pass for its need", needy.struck(0), MoonVeto.NONE);
        C.due("passing()", needy.passing(), 0);
        C.due("struck(1)", x.struck(1), MoonVeto.UNKNOWN);
        C.due("struck(-1)", x.struck(-1), MoonVeto.UNKNOWN);
    }

    private static void needs() {
        C.part("9 passing, by needs");
        MoonVeto x = Checks.of("m006010;b10669;b10069;b20361");
        C.due("passing(): a need of the same day, one that is not there", x.passing(), 1);
        x.move(1, 11);
        C.due("passing(): a need of the day ahead", x.passing(), 3);
        x.move(0, 60);
        C.due("passing(): a need that is struck", x.passing(), 0);
        MoonVeto itself = Checks.of("m006010;b10069");
        C.due("passing(): a need of itself", itself.passing(), 0);
        MoonVeto gone = Checks.of("m006010;b10669;r15609;b16069");
        C.due("passing(): a need that is repealed", gone.passing(), 3);
        gone.move(2, 15);
        C.due("passing(): a need that is repealed on the day behind", gone.passing(), 7);
        C.due("force(16)", gone.force(16), 6);
        MoonVeto ended = Checks.of("m006010;s10661;b20061;b21061");
        C.due("passing(): a need at its end", ended.passing(), 3);
        MoonVeto chain = Checks.of("m006010;b30161;b20261;b10661");
        C.due("passing(): a chain of needs", chain.passing(), 7);
        chain.span(9);
        chain.move(2, 51);
        C.due("passing(): a chain that is broken", chain.passing(), 0);
    }

    private static void sunset() {
        C.part("10, 11 force, holds of a sunset");
        MoonVeto x = Checks.of("m006010;s10661");
        C.due("force(0)", x.force(0), 0);
        C.due("force(10)", x.force(10), 0);
        C.due("force(11)", x.force(11), 1);
        C.due("force(20)", x.force(20), 1);
        C.due("force(21)", x.force(21), 0);
        C.due("holds(0)", x.holds(0), 10);
        x.move(0, 99);
        C.due("holds(0) at the end", x.holds(0), 10);
        C.due("force(109)", x.force(109), 1);
        MoonVeto nine = Checks.of("m006010;s10669");
        C.due("holds(0) of nine", nine.holds(0), 90);
        nine.move(0, 99);
        C.due("holds(0) of nine at the end", nine.holds(0), 10);
        nine.move(0, 50);
        C.due("holds(0) of nine, in both halves", nine.holds(0), 59);
        MoonVeto bill = Checks.of("m006010;b54661");
        C.due("holds(0) of a bill", bill.holds(0), 55);
        C.due("force(54)", bill.force(54), 0);
        C.due("force(55)", bill.force(55), 1);
        C.due("force(109)", bill.force(109), 1);
    }

    private static void repeal() {
        C.part("10, 11 force, holds by repeals");
        MoonVeto x = Checks.of("m006010;b10669;r10603;r20613");
        C.due("force(10)", x.force(10), 0);
        C.due("force(11)", x.force(11), 2);
        C.due("force(20)", x.force(20), 2);
        C.due("force(21)", x.force(21), 5);
        C.due("force(109)", x.force(109), 5);
        C.due("holds(0)", x.holds(0), 89);
        C.due("holds(1)", x.holds(1), 10);
        C.due("holds(2)", x.holds(2), 89);
        C.due("passing()", x.passing(), 7);
        MoonVeto earlier = Checks.of("m006010;r10613;b10669");
        C.due("force(11): one of a smaller number is not later", earlier.force(11), 3);
        earlier.move(0, 9);
        C.due("force(11): one of an earlier day is not later", earlier.force(11), 3);
        earlier.move(0, 11);
        C.due("force(11): a later one, ahead of its force", earlier.force(11), 2);
        C.due("force(12): a later one", earlier.force(12), 1);
        MoonVeto chain = Checks.of("m006010;b01669;r02609;r03619;r04629;r05639;r06649");
        C.due("force(6): a chain of five", chain.force(6), 21);
        C.due("force(7): a chain of six", chain.force(7), 42);
        C.due("holds(0): in force on days 2, 4, 6", chain.holds(0), 3);
        MoonVeto itself = Checks.of("m006010;r10601");
        C.due("holds(0) of a repeal that names itself, and goes beyond LASTS", itself.holds(0), 99);
        MoonVeto others = Checks.of("m006010;b10669;b20609;s20609");
        C.due("force(21): no repeals, though they name", others.force(21), 7);
        MoonVeto two = Checks.of("m006010;r10619;r20609");
        C.due("force(21): two that name each other", two.force(21), 2);
        MoonVeto away = Checks.of("m006010;b10669;r60609;r20559");
        C.due("force(61): repeals that do not pass, or name none", away.force(61), 1);
        MoonVeto needs = Checks.of("m006010;b10669;r20609;r30619;b31069");
        C.due("passing(): a need that comes back", needs.passing(), 15);
        C.due("force(31)", needs.force(31), 5);
        C.due("force(32)", needs.force(32), 13);
    }

    private static void refusals() {
        C.part("9 to 11 refusals");
        MoonVeto x = Checks.of("m006010;b10669");
        C.due("force(-1)", x.force(-1), MoonVeto.OUTSIDE);
        C.due("force(110)", x.force(110), MoonVeto.OUTSIDE);
        C.due("holds(-1)", x.holds(-1), MoonVeto.UNKNOWN);
        C.due("holds(1)", x.holds(1), MoonVeto.UNKNOWN);
        MoonVeto none = new MoonVeto();
        C.due("force(110) without a council", none.force(110), MoonVeto.OUTSIDE);
        C.due("force(0) without a council", none.force(0), MoonVeto.STATE);
        C.due("passing() without a council", none.passing(), MoonVeto.STATE);
        C.due("holds(0) without a council", none.holds(0), MoonVeto.UNKNOWN);
    }

    private static void chronicle() {
        C.part("12 chronicle");
        for (int lane = 0; lane <= 2; lane++) {
            MoonVeto x = Checks.of("m006010;b10669;r10603;r20613");
            x.sheet(1, lane, 30);
            C.due("chronicle of 0 alone", x.chronicle(1, lane, 0, 30), 11);
            C.due("chronicle of 0 alone, of 11 cells", x.chronicle(1, lane, 0, 11), MoonVeto.NONE);
            for (int day = 11; day < 25; day++) {
                x.put(1, 3 + day, day < 21 ? 2 : 5);
            }
            C.due("chronicle from 3 on", x.chronicle(1, lane, 3, 25), MoonVeto.NONE);
            C.due("chronicle from 3 on, of 26 cells", x.chronicle(1, lane, 3, 26), 25);
            C.due("chronicle from 2 on", x.chronicle(1, lane, 2, 26), 11);
            x.put(1, 3, 258);
            C.due("chronicle of 258", x.chronicle(1, lane, 3, 1), 0);
            x.put(1, 3, 256);
            C.due("chronicle of 256", x.chronicle(1, lane, 3, 1), lane == 0 ? MoonVeto.NONE : 0);
            C.due("chronicle of no cells", x.chronicle(1, lane, 30, 0), MoonVeto.NONE);
            C.due("fault()", x.fault(), 0);
        }
    }

    private static void refusalsOfChronicle() {
        C.part("12 refusals and faults");
        MoonVeto x = Checks.of("m006010;b10669");
        x.sheet(1, 1, 3);
        C.due("chronicle(4, 3, 0, -1)", x.chronicle(4, 3, 0, -1), MoonVeto.UNKNOWN);
        C.due("chronicle(-1, 0, 0, 0)", x.chronicle(-1, 0, 0, 0), MoonVeto.UNKNOWN);
        C.due("chronicle(1, 3, 0, -1)", x.chronicle(1, 3, 0, -1), MoonVeto.OUTSIDE);
        C.due("chronicle(2, -1, 0, -1)", x.chronicle(2, -1, 0, -1), MoonVeto.OUTSIDE);
        C.due("chronicle(1, 0, 0, -1)", x.chronicle(1, 0, 0, -1), -12);
        C.due("fault()", x.fault(), 2);
        C.due("chronicle(2, 1, 0, -1)", x.chronicle(2, 1, 0, -1), -11);
        C.due("fault()", x.fault(), 1);
        C.due("chronicle(1, 1, 4, -1)", x.chronicle(1, 1, 4, -1), -14);
        C.due("fault()", x.fault(), 4);
        C.due("chronicle(1, 1, 4, 0)", x.chronicle(1, 1, 4, 0), -13);
        C.due("chronicle(1, 1, -1, 0)", x.chronicle(1, 1, -1, 0), -13);
        C.due("chronicle(1, 1, 1, 3)", x.chronicle(1, 1, 1, 3), -13);
        C.due("chronicle(1, 1, 3, MAX)", x.chronicle(1, 1, 3, Integer.MAX_VALUE), -13);
        C.due("fault()", x.fault(), 3);
        MoonVeto none = new MoonVeto();
        none.sheet(1, 1, 3);
        C.due("chronicle(1, 1, 4, 0) without a council", none.chronicle(1, 1, 4, 0), -13);
        C.due("fault()", none.fault(), 3);
        C.due("chronicle(1, 1, 0, 3) without a council", none.chronicle(1, 1, 0, 3), MoonVeto.STATE);
        C.due("fault()", none.fault(), 0);
    }
}
