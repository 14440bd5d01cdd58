/** Promises 13 to 16 and 23: the bounds of clouds to be bought, days to move, worth and odds. */
public final class TrialEdgesTest {
    private static final Checks C = new Checks();
    private static final int NONE = MoonVeto.NONE;
    /** Full moons 0 and 1 on days 29 and 89 alone, of days 0 .. 109. */
    private static final String RARE = "m296010";
    /** A full moon each tenth day, and a SPAN by which just one of them watches each DAY. */
    private static final String OFTEN = "m002029";

    public static void main(String[] args) {
        buyNothing();
        buyByNone();
        buyFirstAndLast();
        buyTheMost();
        buyNotThoseThatAre();
        buyTheLeast();
        whenFirst();
        whenLast();
        whenNone();
        longestFirst();
        longestLast();
        longestNever();
        worth();
        worthOfTheStruck();
        oddsOfAllAndNone();
        oddsOfTheMost();
        oddsInPlaceOfClouds();
        C.end("TrialEdgesTest");
    }

    private static void buyNothing() {
        C.part("13 \"the fewest FULL MOONS more to be CLOUDED\": none");
        MoonVeto x = Checks.of(RARE + ";b30669");
        C.due("buy(0, 31)", x.buy(0, 31), 0);
        C.due("buy(0, 109)", x.buy(0, 109), 0);
        C.due("buy(0, 1) of day 0", Checks.of(RARE + ";b00669").buy(0, 1), 0);
    }

    private static void buyByNone() {
        C.part("13 \"NONE: by none\"");
        MoonVeto x = Checks.of(RARE + ";b29669");
        C.due("buy(0, 0)", x.buy(0, 0), NONE);
        C.due("buy(0, 29): on its DAY", x.buy(0, 29), NONE);
        C.due("buy(0, 30): on the day behind", x.buy(0, 30), 1);
        MoonVeto sunset = Checks.of(RARE + ";s29661");
        C.due("buy(0, 39): on its last day", sunset.buy(0, 39), 1);
        C.due("buy(0, 40): behind its last day", sunset.buy(0, 40), NONE);
        C.due("buy(0, 109): a need that is not there", Checks.of(RARE + ";b30169").buy(0, 109), NONE);
        MoonVeto repealed = Checks.of(RARE + ";b29669;r30609");
        C.due("buy(0, 30)", repealed.buy(0, 30), 1);
        C.due("buy(0, 31): a REPEAL", repealed.buy(0, 31), NONE);
    }

    private static void buyFirstAndLast() {
        C.part("13 \"on days 0 .. 109, numbers as bits\"");
        MoonVeto x = Checks.of(OFTEN + ";b00669");
        for (int n = 0; n <= 10; n++) {
            x.move(0, Math.min(10 * n, 99));
            C.due("buy(0, 109) of number " + n, x.buy(0, 109), 1 << n);
        }
        MoonVeto late = Checks.of("m292029;b19669");
        C.due("buy(0, 109): ahead of the first", late.buy(0, 109), 0);
        late.move(0, 20);
        C.due("buy(0, 109): the first on day 29", late.buy(0, 109), 1);
        late.move(0, 99);
        C.due("buy(0, 100): the last on day 99", late.buy(0, 100), 128);
    }

    private static void buyTheMost() {
        C.part("13 the most that can be needed");
        MoonVeto first = Checks.of(OFTEN + ";b00669;b10069;b20169;b30269;b40369;b50469");
        C.due("buy(5, 109): numbers 0 to 5", first.buy(5, 109), 63);
        C.due("buy(0, 109): number 0 alone", first.buy(0, 109), 1);
        MoonVeto last = Checks.of(OFTEN + ";b50669;b60069;b70169;b80269;b90369;b99469");
        C.due("buy(5, 109): numbers 5 to 10", last.buy(5, 109), 2016);
        C.due("passing()", last.passing(), 0);
        C.due("many(4)", last.many(4), 0);
    }

    private static void buyNotThoseThatAre() {
        C.part("13 \"not those that are\"");
        MoonVeto x = Checks.of(OFTEN + ";b50669;b60069;b70169;b80269;b90369;b99469");
        x.cloud(50, true);
        C.due("buy(5, 109)", x.buy(5, 109), 1984);
        x.cloud(100, true);
        C.due("buy(5, 109)", x.buy(5, 109), 960);
        x.cloud(51, true);
        C.due("buy(5, 109): a night without a full moon", x.buy(5, 109), 960);
        for (int day = 60; day <= 90; day += 10) {
            x.cloud(day, true);
        }
        C.due("buy(5, 109): all are", x.buy(5, 109), 0);
        C.due("many(4)", x.many(4), 7);
    }

    private static void buyTheLeast() {
        C.part("13 \"of several the least\"");
        MoonVeto x = Checks.of("m003015;b02669;r10609;r58619;r28619");
        C.due("buy(0, 80): number 1, or 2", x.buy(0, 80), 2);
        x.move(0, 0);
        C.due("buy(0, 80): numbers 0 and 1, or 0 and 2", x.buy(0, 80), 3);
        C.due("buy(0, 5): number 0 alone", x.buy(0, 5), 1);
        C.part("13 the fewest ahead of the least");
        MoonVeto fewest = Checks.of("m003015;b02669;r10609;r58619;r28419;b00669");
        C.due("buy(0, 80): number 2, not numbers 0 and 1", fewest.buy(0, 80), 4);
    }

    private static void whenFirst() {
        C.part("14 \"the first DAY (0 .. 99) of all\"");
        MoonVeto x = Checks.of(RARE + ";b50669");
        C.due("when(0, 1)", x.when(0, 1), 0);
        C.due("when(0, 109)", x.when(0, 109), 0);
        C.due("ofBill(0, 1)", x.ofBill(0, 1), 50);
        MoonVeto struck = Checks.of("m006014;b50669");
        C.due("when(0, 109): day 0 is watched", struck.when(0, 109), 1);
        C.due("when(0, 2)", struck.when(0, 2), 1);
        C.due("when(0, 1)", struck.when(0, 1), NONE);
    }

    private static void whenLast() {
        C.part("14 \"the first DAY (0 .. 99) of all\": day 99");
        C.due("when(0, 109) of a SUNSET", Checks.of(RARE + ";s00661").when(0, 109), 99);
        MoonVeto needy = Checks.of(RARE + ";b98669;b50069");
        C.due("when(1, 109)", needy.when(1, 109), 99);
        C.due("when(1, 100)", needy.when(1, 100), 99);
        C.due("when(1, 99)", needy.when(1, 99), NONE);
        needy.move(0, 99);
        C.due("when(1, 109): its need is in FORCE from day 100 on", needy.when(1, 109), NONE);
    }

    private static void whenNone() {
        C.part("14 \"NONE: on none\"");
        C.due("when(0, 0)", Checks.of(RARE + ";b50669").when(0, 0), NONE);
        C.due("when(0, 109): it NEEDS itself", Checks.of(RARE + ";b50069").when(0, 109), NONE);
        MoonVeto always = Checks.of(OFTEN + ";b50669");
        C.due("when(0, 109): each DAY is watched", always.when(0, 109), NONE);
        always.cloud(100, true);
        C.due("when(0, 109): days 91 to 99", always.when(0, 109), 91);
        C.due("when(0, 92)", always.when(0, 92), 91);
        C.due("when(0, 91)", always.when(0, 91), NONE);
    }

    private static void longestFirst() {
        C.part("15 \"of several the first\"");
        MoonVeto x = Checks.of(RARE + ";s50661;b50669");
        C.due("longest(0, 0): ten days each", x.longest(0, 0), 0);
        C.due("longest(0, 1)", x.longest(0, 1), 10);
        C.due("longest(1, 0)", x.longest(1, 0), 0);
        C.due("longest(1, 1): the most of all", x.longest(1, 1), 109);
        C.due("ofBill(0, 1)", x.ofBill(0, 1), 50);
        C.due("ofBill(1, 1)", x.ofBill(1, 1), 50);
        MoonVeto nine = Checks.of("m006010;s50669");
        C.due("longest(0, 0): day 0 is watched", nine.longest(0, 0), 1);
        C.due("longest(0, 1)", nine.longest(0, 1), 90);
    }

    private static void longestLast() {
        C.part("15 \"the DAY on which it is to be moved\": day 99");
        MoonVeto x = Checks.of(RARE + ";b98669;b50069");
        C.due("longest(1, 0)", x.longest(1, 0), 99);
        C.due("longest(1, 1)", x.longest(1, 1), 10);
        C.due("holds(1)", x.holds(1), 0);
    }

    private static void longestNever() {
        C.part("15 LONGEST of one that is never in FORCE");
        MoonVeto x = Checks.of(OFTEN + ";b50669");
        C.due("longest(0, 0)", x.longest(0, 0), 0);
        C.due("longest(0, 1)", x.longest(0, 1), 0);
        x.cloud(100, true);
        C.due("longest(0, 0) with a cloud", x.longest(0, 0), 91);
        C.due("longest(0, 1) with a cloud", x.longest(0, 1), 18);
    }

    private static void worth() {
        C.part("16 \"HOLDS of all others together, less what those are if it were STRUCK in any case\"");
        C.due("worth(0) of one alone", Checks.of(RARE + ";b00669").worth(0), 1000);
        MoonVeto repeal = Checks.of(RARE + ";b00669;r00609");
        C.due("worth(1) of a REPEAL", repeal.worth(1), 1000 - 109);
        C.due("worth(0) of what it NAMES", repeal.worth(0), 1000);
        MoonVeto most = Checks.of(RARE + ";b00669;b01069;b01069;b01069;b01069;b01069");
        C.due("worth(0) of what five NEED", most.worth(0), 1000 + 5 * 108);
        MoonVeto least = Checks.of(RARE + ";b00669;r00609;b01069;b01069;b01069;b01069");
        C.due("worth(1) of a REPEAL of what four NEED", least.worth(1), 1000 - 109 - 4 * 108);
        C.due("passing()", least.passing(), 3);
    }

    private static void worthOfTheStruck() {
        C.part("16 WORTH of one that does not PASS");
        MoonVeto x = Checks.of(RARE + ";b00669;r29609;r30619");
        C.due("worth(1): STRUCK", x.worth(1), 1000);
        x.cloud(29, true);
        C.due("worth(1): CLOUDED", x.worth(1), 1000 - 1);
        C.due("worth(2): it NAMES the REPEAL", x.worth(2), 1000 + 79 - 79);
        MoonVeto needy = Checks.of(RARE + ";b00669;r10109");
        C.due("worth(1): without its need", needy.worth(1), 1000);
    }

    private static void share(MoonVeto x, int b, int day, int upper, int lower) {
        C.due("odds(" + b + ", " + day + ", 0)", x.odds(b, day, 0), upper);
        C.due("odds(" + b + ", " + day + ", 1)", x.odds(b, day, 1), lower);
    }

    private static void oddsOfAllAndNone() {
        C.part("23 \"Shares are told as upper and lower number (above 0) in least terms\"");
        MoonVeto x = Checks.of(RARE + ";b30669;b29669;b30569");
        share(x, 0, 0, 0, 1);
        share(x, 0, 30, 0, 1);
        share(x, 0, 31, 1, 1);
        share(x, 0, 109, 1, 1);
        share(x, 1, 29, 0, 1);
        share(x, 1, 30, 1, 2);
        share(x, 1, 109, 1, 2);
        share(x, 2, 109, 0, 1);
    }

    private static void oddsOfTheMost() {
        C.part("23 \"each FULL MOON on days 0 .. 109\"");
        MoonVeto last = Checks.of(OFTEN + ";b50669;b60069;b70169;b80269;b90369;b99469");
        for (int b = 0; b < 6; b++) {
            share(last, b, 109, 1, 2 << b);
        }
        MoonVeto unless = Checks.of(OFTEN + ";b00669;b10669;b20169;b30269;b40369;r50409");
        share(unless, 0, 50, 1, 2);
        share(unless, 0, 51, 31, 64);
        share(unless, 5, 51, 1, 32);
        MoonVeto both = Checks.of("m003019;b22669;b23669;r24609");
        share(both, 0, 24, 1, 2);
        share(both, 0, 25, 0, 1);
        share(both, 1, 25, 1, 2);
    }

    private static void oddsInPlaceOfClouds() {
        C.part("23 \"in place of what is CLOUDED\"");
        MoonVeto x = Checks.of(RARE + ";b29669");
        share(x, 0, 30, 1, 2);
        x.cloud(29, true);
        x.cloud(89, true);
        share(x, 0, 30, 1, 2);
        C.due("struck(0)", x.struck(0), NONE);
        C.due("many(4)", x.many(4), 2);
    }
}
