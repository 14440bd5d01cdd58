/** Promises 4 to 12: the bounds of full moons, spans, days, needs, repeals and chronicles. */
public final class DayEdgesTest {
    private static final Checks C = new Checks();
    /** Full moons on days 29 and 89 alone, of days 0 .. 109. */
    private static final String RARE = "m296010";

    public static void main(String[] args) {
        moons();
        spanOfStrikes();
        spanIsSet();
        movesAreSet();
        nightsAreClouded();
        cloudsOfStrikes();
        needsOnTheDay();
        needsThatAreNotThere();
        needsOfAll();
        firstDayOfForce();
        lastDayOfSunsets();
        repealsHaveNoEnd();
        laterOnes();
        repealsOnTheDayItself();
        repealsOnTheLastDay();
        repealsOfNone();
        repealsOfRepeals();
        sunsetKindsOfNames();
        mostAndFewestDays();
        chronicleOfAFullRow();
        chronicleOfNoCells();
        C.end("DayEdgesTest");
    }

    private static String two(int v) {
        return (v < 10 ? "0" : "") + v;
    }

    private static void moons() {
        C.part("4 \"number n on day BEGINS and n times UPPER by LOWER (cut)\"");
        MoonVeto odd = Checks.of("m292120;b00661");
        C.due("moon(0)", odd.moon(0), 29);
        C.due("moon(1): 10 and a half", odd.moon(1), 39);
        C.due("moon(2): 21", odd.moon(2), 50);
        C.due("moon(3): 31 and a half", odd.moon(3), 60);
        C.due("moon(99): 1039 and a half", odd.moon(99), 1068);
        C.due("moon(99) of the longest months", Checks.of("m296010;b00661").moon(99), 5969);
        C.due("moon(99) of the shortest months", Checks.of("m002020;b00661").moon(99), 990);
        C.due("moon(0) of day 0", Checks.of("m002020;b00661").moon(0), 0);
        C.due("moon(1) of 59 by 2", Checks.of("m005920;b00661").moon(1), 29);
        C.due("moon(1) of 59 by 1", Checks.of("m005910;b00661").moon(1), 59);
    }

    /** Every DAY with every SPAN. */
    private static void spanOfStrikes() {
        C.part("8 \"from its DAY to SPAN days behind it (both, too)\"");
        for (int span = 0; span <= 9; span++) {
            MoonVeto x = Checks.of(RARE + ";b00661");
            x.span(span);
            for (int day = 0; day <= 99; day++) {
                x.move(0, day);
                boolean first = day <= 29 && 29 <= day + span;
                boolean second = day <= 89 && 89 <= day + span;
                int want = first ? 29 : second ? 89 : MoonVeto.NONE;
                C.due("struck(0) of day " + day + ", span " + span, x.struck(0), want);
                C.due("passing() of day " + day + ", span " + span, x.passing(), want == MoonVeto.NONE ? 1 : 0);
            }
        }
        C.part("8 the last day of all that is watched");
        MoonVeto last = Checks.of("m082029;b99661");
        C.due("struck(0) of day 99 by day 108", last.struck(0), 108);
        last.span(8);
        C.due("struck(0) of day 99, span 8", last.struck(0), MoonVeto.NONE);
        MoonVeto behind = Checks.of("m092029;b99661");
        C.due("struck(0) of day 99 by day 99, not by day 109", behind.struck(0), 99);
        behind.cloud(99, true);
        C.due("struck(0) of day 99, clouded", behind.struck(0), MoonVeto.NONE);
        C.part("8 the first day of all");
        C.due("struck(0) of day 0 by day 0", Checks.of("m006010;b00661").struck(0), 0);
    }

    private static void spanIsSet() {
        C.part("5 \"SPAN becomes v (0 .. 9): what it was\"");
        MoonVeto x = Checks.of("m006017;b00661");
        int was = 7;
        for (int v : new int[] {9, 9, 0, 0, 5}) {
            C.due("span(" + v + ")", x.span(v), was);
            C.due("many(2)", x.many(2), v);
            was = v;
        }
    }

    private static void movesAreSet() {
        C.part("6 \"A BILL is moved on a DAY (0 .. 99): on which it was\"");
        MoonVeto x = Checks.of(RARE + ";b00661;b50661;b50661;b50661;b50661;b99661");
        C.due("move(5, 0)", x.move(5, 0), 99);
        C.due("move(5, 0)", x.move(5, 0), 0);
        C.due("move(0, 99)", x.move(0, 99), 0);
        C.due("ofBill(0, 1)", x.ofBill(0, 1), 99);
        C.due("ofBill(1, 1)", x.ofBill(1, 1), 50);
        C.due("ofBill(5, 1)", x.ofBill(5, 1), 0);
        C.due("holds(0)", x.holds(0), 10);
        C.due("holds(5)", x.holds(5), 109);
    }

    private static void nightsAreClouded() {
        C.part("7, 34 \"is CLOUDED (true), or not: 1; 0: it was so\"");
        MoonVeto x = Checks.of(RARE + ";b00661");
        for (int day = 0; day <= 109; day++) {
            C.due("cloud(" + day + ", true)", x.cloud(day, true), 1);
        }
        C.due("many(4): all nights", x.many(4), 110);
        for (int day : new int[] {0, 29, 109}) {
            C.due("cloud(" + day + ", true) again", x.cloud(day, true), 0);
        }
        C.due("many(4)", x.many(4), 110);
        for (int day = 0; day <= 109; day++) {
            C.due("cloud(" + day + ", false)", x.cloud(day, false), 1);
        }
        C.due("many(4): none", x.many(4), 0);
        C.due("cloud(0, false) again", x.cloud(0, false), 0);
        C.due("cloud(109, false) again", x.cloud(109, false), 0);
        C.due("many(4)", x.many(4), 0);
    }

    private static void cloudsOfStrikes() {
        C.part("8 \"a FULL MOON that is not CLOUDED\"");
        MoonVeto x = Checks.of("m006019;b55661");
        C.due("struck(0)", x.struck(0), 60);
        x.cloud(59, true);
        x.cloud(61, true);
        C.due("struck(0), clouds on both sides", x.struck(0), 60);
        x.cloud(60, true);
        C.due("struck(0), clouded", x.struck(0), MoonVeto.NONE);
        C.due("passing()", x.passing(), 1);
        x.cloud(60, false);
        C.due("struck(0), not any more", x.struck(0), 60);
    }

    private static void needsOnTheDay() {
        C.part("9 \"in FORCE on its DAY\"");
        MoonVeto x = Checks.of(RARE + ";s40661;b40061");
        int[][] want = {{39, 1}, {40, 1}, {41, 3}, {50, 3}, {51, 1}};
        for (int[] of : want) {
            x.move(1, of[0]);
            C.due("passing() of a need of day 40 on day " + of[0], x.passing(), of[1]);
        }
        MoonVeto gone = Checks.of(RARE + ";b10661;r50601;b50061");
        C.due("passing(): the REPEAL is not in FORCE yet", gone.passing(), 7);
        gone.move(2, 51);
        C.due("passing(): the REPEAL is in FORCE", gone.passing(), 3);
    }

    private static void needsThatAreNotThere() {
        C.part("9 \"what it NEEDS (if anything) is a BILL that there is\"");
        C.due("NEEDS 6: none", Checks.of(RARE + ";b50669").passing(), 1);
        C.due("NEEDS itself", Checks.of(RARE + ";b50069").passing(), 0);
        for (int v = 1; v <= 5; v++) {
            C.due("NEEDS " + v + " of one", Checks.of(RARE + ";b50" + v + "69").passing(), 0);
        }
        String five = ";b40569;b01669;b01669;b01669;b01669";
        C.due("NEEDS 5 of five", Checks.of(RARE + five).passing(), 30);
        C.due("NEEDS 5 of six", Checks.of(RARE + five + ";b39669").passing(), 63);
        C.due("NEEDS one another", Checks.of(RARE + ";b50169;b50069").passing(), 0);
        C.due("not STRUCK for a need", Checks.of(RARE + ";b50069").struck(0), MoonVeto.NONE);
    }

    private static void needsOfAll() {
        C.part("9 a chain of all six, told in the other order");
        MoonVeto x = Checks.of(RARE + ";b05161;b04261;b03361;b02461;b01561;b00661");
        C.due("passing()", x.passing(), 63);
        C.due("force(5)", x.force(5), 62);
        C.due("force(6)", x.force(6), 63);
        x.move(5, 29);
        C.due("passing(): the first is STRUCK", x.passing(), 0);
        C.due("force(109)", x.force(109), 0);
    }

    private static void firstDayOfForce() {
        C.part("10 \"a BILL that PASSES from the day behind its DAY on\"");
        for (int day : new int[] {0, 1, 53, 54, 55, 98, 99}) {
            for (String kind : new String[] {"b", "s", "r"}) {
                MoonVeto x = Checks.of(RARE + ";" + kind + two(day) + "669");
                String of = " of " + kind + " of day " + day;
                C.due("force(0)" + of, x.force(0), 0);
                C.due("force on its DAY" + of, x.force(day), 0);
                C.due("force on the day behind" + of, x.force(day + 1), 1);
            }
        }
        C.due("force(109) of day 99", Checks.of(RARE + ";b99661").force(109), 1);
        C.due("force(109) of one that is STRUCK", Checks.of(RARE + ";b89661").force(109), 0);
    }

    private static void lastDayOfSunsets() {
        C.part("10, 11 \"a SUNSET for 10 times LASTS days alone\"");
        for (int lasts = 1; lasts <= 9; lasts++) {
            for (int day : new int[] {0, 19, 44, 45, 99}) {
                MoonVeto x = Checks.of(RARE + ";s" + two(day) + "66" + lasts);
                int last = day + 10 * lasts;
                String of = " of day " + day + ", lasts " + lasts;
                if (last <= 109) {
                    C.due("force on its last day" + of, x.force(last), 1);
                }
                if (last < 109) {
                    C.due("force behind its last day" + of, x.force(last + 1), 0);
                }
                C.due("holds(0)" + of, x.holds(0), Math.min(last, 109) - day);
            }
        }
    }

    private static void repealsHaveNoEnd() {
        C.part("10, 11 \"a REPEAL as a BILL\"");
        for (String kind : new String[] {"b", "r"}) {
            MoonVeto x = Checks.of(RARE + ";" + kind + "00661");
            C.due("force(10) of " + kind, x.force(10), 1);
            C.due("force(11) of " + kind, x.force(11), 1);
            C.due("force(109) of " + kind, x.force(109), 1);
            C.due("holds(0) of " + kind, x.holds(0), 109);
        }
    }

    private static void laterOnes() {
        C.part("10 \"LATER is one of a later DAY; of one DAY the one of the greater number\"");
        MoonVeto x = Checks.of(RARE + ";r50619;b50669;r50619");
        C.due("force(51): the greater number alone", x.force(51), 5);
        x.move(2, 49);
        C.due("force(51): none is LATER", x.force(51), 7);
        x.move(0, 51);
        C.due("force(51): not in FORCE yet", x.force(51), 6);
        C.due("force(52): a later DAY, a smaller number", x.force(52), 5);
        x.move(2, 50);
        C.due("force(51): the greater number again", x.force(51), 4);
    }

    private static void repealsOnTheDayItself() {
        C.part("10 \"and in FORCE on that day itself\"");
        MoonVeto x = Checks.of(RARE + ";b10669;r50609;r70619");
        int[][] want = {{49, 1}, {50, 1}, {51, 2}, {70, 2}, {71, 5}, {109, 5}};
        for (int[] of : want) {
            C.due("force(" + of[0] + ")", x.force(of[0]), of[1]);
        }
        C.due("holds(0)", x.holds(0), 40 + 39);
        C.due("holds(1)", x.holds(1), 20);
        C.due("passing(): a BILL that is named PASSES all the same", x.passing(), 7);
        x.move(1, 89);
        C.due("holds(0): a REPEAL that is STRUCK", x.holds(0), 99);
    }

    private static void repealsOnTheLastDay() {
        C.part("10, 11 \"in FORCE on that day itself\": the last day of a SUNSET");
        for (int last : new int[] {54, 55, 56, 57, 100}) {
            MoonVeto x = Checks.of(RARE + ";s" + two(last - 10) + "661;r" + two(last - 1) + "601");
            String of = " of a last day " + last;
            C.due("force ahead of the REPEAL" + of, x.force(last - 1), 1);
            C.due("force on the last day" + of, x.force(last), 2);
            C.due("holds(0)" + of, x.holds(0), 9);
            x.move(1, last - 11);
            C.due("holds(0): the REPEAL is not LATER" + of, x.holds(0), 10);
            x.move(1, last - 10);
            C.due("holds(0): the REPEAL is of its DAY" + of, x.holds(0), 0);
        }
    }

    private static void repealsOfNone() {
        C.part("10 \"NAMES; 6: none\"");
        C.due("force(109): NAMES 6", Checks.of(RARE + ";b10669;r50669").force(109), 3);
        C.due("force(109): NAMES one that is not there", Checks.of(RARE + ";b10669;r50629").force(109), 3);
        C.due("force(109): NAMES 5 of two", Checks.of(RARE + ";b10669;r50659").force(109), 3);
        C.due("force(109): NAMES itself", Checks.of(RARE + ";b10669;r50619").force(109), 3);
        C.due("force(109): NAMES one another", Checks.of(RARE + ";r50619;r50609").force(109), 2);
        String six = RARE + ";b10669;b10669;b10669;b10669;b10669;b10669";
        C.due("force(109) of six", Checks.of(six).force(109), 63);
        String last = RARE + ";r50659;b10669;b10669;b10669;b10669;b10669";
        C.due("force(109): NAMES 5 of six", Checks.of(last).force(109), 31);
        C.due("force(109): two that NAME one", Checks.of(RARE + ";b10669;r50609;r60609").force(109), 6);
    }

    private static void repealsOfRepeals() {
        C.part("10 a chain of all six, of one DAY");
        MoonVeto x = Checks.of(RARE + ";b50669;r50609;r50619;r50629;r50639;r50649");
        C.due("force(50)", x.force(50), 0);
        C.due("force(51)", x.force(51), 42);
        C.due("force(109)", x.force(109), 42);
        C.due("holds(0)", x.holds(0), 0);
        C.due("holds(5)", x.holds(5), 59);
        C.due("passing()", x.passing(), 63);
    }

    private static void sunsetKindsOfNames() {
        C.part("10 \"NAMED by a REPEAL\": no other kind");
        C.due("force(109): a BILL that NAMES", Checks.of(RARE + ";b10669;b50609").force(109), 3);
        C.due("force(60): a SUNSET that NAMES", Checks.of(RARE + ";b10669;s50609").force(60), 3);
    }

    private static void mostAndFewestDays() {
        C.part("11 \"on how many days 0 .. 109 a BILL is in FORCE\"");
        C.due("the most", Checks.of(RARE + ";b00669").holds(0), 109);
        C.due("of day 99", Checks.of(RARE + ";b99669").holds(0), 10);
        C.due("of day 98", Checks.of(RARE + ";b98669").holds(0), 11);
        C.due("STRUCK", Checks.of(RARE + ";b29669").holds(0), 0);
        C.due("without its need", Checks.of(RARE + ";b30569").holds(0), 0);
        C.due("of day 54", Checks.of(RARE + ";b54669").holds(0), 55);
    }

    private static void chronicleOfAFullRow() {
        C.part("12 \"the first of them that is not so; NONE: all are\"");
        for (int lane = 0; lane <= 2; lane++) {
            MoonVeto x = Checks.of(RARE + ";b00669;b01669;b02669;b03669;b04669;b05669");
            x.sheet(1, lane, 60);
            for (int day = 0; day < 60; day++) {
                x.put(1, day, day >= 6 ? 63 : (1 << day) - 1);
            }
            C.due("chronicle of 60 days", x.chronicle(1, lane, 0, 60), MoonVeto.NONE);
            C.due("chronicle of day 0 alone", x.chronicle(1, lane, 0, 1), MoonVeto.NONE);
            C.due("chronicle from cell 1 on", x.chronicle(1, lane, 1, 59), 0);
            x.put(1, 59, -1);
            C.due("chronicle with its last cell below 0", x.chronicle(1, lane, 0, 60), 59);
            C.due("chronicle without its last cell", x.chronicle(1, lane, 0, 59), MoonVeto.NONE);
            x.put(1, 30, 62);
            C.due("chronicle with two that are not so", x.chronicle(1, lane, 0, 60), 30);
            x.put(1, 0, 64);
            C.due("chronicle with its first cell", x.chronicle(1, lane, 0, 60), 0);
            C.due("chronicle of the last cell, as day 0", x.chronicle(1, lane, 59, 1), 0);
            C.due("fault()", x.fault(), 0);
        }
    }

    private static void chronicleOfNoCells() {
        C.part("12 \"A CHRONICLE of n cells\": none");
        MoonVeto x = Checks.of(RARE + ";b00669");
        x.sheet(1, 1, 2);
        x.put(1, 0, 9);
        for (int i = 0; i <= 2; i++) {
            C.due("chronicle(1, 1, " + i + ", 0)", x.chronicle(1, 1, i, 0), MoonVeto.NONE);
        }
        x.sheet(2, 2, 0);
        C.due("chronicle(2, 2, 0, 0)", x.chronicle(2, 2, 0, 0), MoonVeto.NONE);
    }
}
