/** Promises 13 to 16, 23: buy, when, longest, worth, odds. */
public final class CloudsTest {
    private static final Checks C = new Checks();
    /** Full moons 0 to 3 on days 0, 30, 60, 90; the first repeals bill 0, the others repeal that one. */
    private static final String TWO_WAYS = "m003015;b02669;r10609;r58619;r28619";
    /** As that one, but the last repeal needs a bill of full moon 0. */
    private static final String LONG_WAY = "m003015;b02669;r10609;r58619;r28419;b00669";

    public static void main(String[] args) {
        buy();
        when();
        longest();
        worth();
        odds();
        C.end("CloudsTest");
    }

    private static void buy() {
        C.part("13 buy");
        MoonVeto x = Checks.of("m006015;b58669");
        C.due("buy(0, 70)", x.buy(0, 70), 2);
        C.due("buy(0, 59)", x.buy(0, 59), 2);
        C.due("buy(0, 58)", x.buy(0, 58), MoonVeto.NONE);
        C.due("many(4)", x.many(4), 0);
        C.due("passing()", x.passing(), 0);
        x.cloud(60, true);
        C.due("buy(0, 70) with the cloud", x.buy(0, 70), 0);
        MoonVeto two = Checks.of(TWO_WAYS);
        C.due("buy(0, 10)", two.buy(0, 10), 0);
        C.due("buy(0, 80): the least of two", two.buy(0, 80), 2);
        C.due("buy(0, 50)", two.buy(0, 50), 2);
        C.due("buy(0, 20)", two.buy(0, 20), MoonVeto.NONE);
        C.due("buy(1, 80)", two.buy(1, 80), 0);
        C.due("buy(2, 80)", two.buy(2, 80), 4);
        two.cloud(60, true);
        C.due("buy(1, 80): clouds are not taken away", two.buy(1, 80), MoonVeto.NONE);
        C.due("buy(3, 80)", two.buy(3, 80), 2);
        MoonVeto longWay = Checks.of(LONG_WAY);
        C.due("buy(0, 80): the fewest", longWay.buy(0, 80), 4);
        C.due("buy(0, 50): two", longWay.buy(0, 50), 3);
        longWay.cloud(0, true);
        C.due("buy(0, 80): now the least", longWay.buy(0, 80), 2);
        MoonVeto last = Checks.of("m002029;b99669");
        C.due("buy(0, 109): number 10", last.buy(0, 109), 1024);
        C.due("buy(1, 110)", x.buy(1, 110), MoonVeto.UNKNOWN);
        C.due("buy(-1, 0)", x.buy(-1, 0), MoonVeto.UNKNOWN);
        C.due("buy(0, 110)", x.buy(0, 110), MoonVeto.OUTSIDE);
        C.due("buy(0, -1)", x.buy(0, -1), MoonVeto.OUTSIDE);
    }

    private static void when() {
        C.part("14 when");
        MoonVeto x = Checks.of("m003015;b02669");
        C.due("when(0, 50)", x.when(0, 50), 1);
        C.due("when(0, 2)", x.when(0, 2), 1);
        C.due("when(0, 1)", x.when(0, 1), MoonVeto.NONE);
        x.cloud(0, true);
        C.due("when(0, 1) with a cloud", x.when(0, 1), 0);
        C.due("when(0, 0)", x.when(0, 0), MoonVeto.NONE);
        C.due("ofBill(0, 1)", x.ofBill(0, 1), 2);
        MoonVeto sunset = Checks.of("m003015;s02661");
        C.due("when(0, 50) of a sunset", sunset.when(0, 50), 40);
        C.due("when(0, 36) of a sunset", sunset.when(0, 36), 31);
        C.due("when(0, 109) of a sunset", sunset.when(0, 109), 99);
        MoonVeto repealed = Checks.of("m006010;b10669;r20609");
        C.due("when(0, 50): behind the repeal", repealed.when(0, 50), 21);
        MoonVeto number = Checks.of("m006010;r20619;b10669");
        C.due("when(1, 50): on its day", number.when(1, 50), 20);
        MoonVeto needy = Checks.of("m006010;b10669;b05069");
        C.due("when(1, 50): by its need", needy.when(1, 50), 11);
        C.due("when(1, 11): by its need", needy.when(1, 11), MoonVeto.NONE);
        C.due("when(2, 110)", needy.when(2, 110), MoonVeto.UNKNOWN);
        C.due("when(-1, 0)", needy.when(-1, 0), MoonVeto.UNKNOWN);
        C.due("when(0, 110)", needy.when(0, 110), MoonVeto.OUTSIDE);
        C.due("when(0, -1)", needy.when(0, -1), MoonVeto.OUTSIDE);
    }

    private static void longest() {
        C.part("15 longest");
        MoonVeto x = Checks.of("m003015;b02669;s40661;b50569");
        C.due("longest(0, 0)", x.longest(0, 0), 1);
        C.due("longest(0, 1)", x.longest(0, 1), 108);
        C.due("longest(1, 0)", x.longest(1, 0), 1);
        C.due("longest(1, 1)", x.longest(1, 1), 10);
        C.due("longest(2, 0): never", x.longest(2, 0), 0);
        C.due("longest(2, 1): never", x.longest(2, 1), 0);
        C.due("ofBill(0, 1)", x.ofBill(0, 1), 2);
        MoonVeto repealed = Checks.of("m006010;b10669;r90609");
        C.due("longest(0, 0): ahead of the repeal", repealed.longest(0, 0), 1);
        C.due("longest(0, 1): ahead of the repeal", repealed.longest(0, 1), 89);
        repealed.move(1, 50);
        C.due("longest(0, 0): behind the repeal", repealed.longest(0, 0), 51);
        C.due("longest(0, 1): behind the repeal", repealed.longest(0, 1), 58);
        C.due("longest(3, 2)", x.longest(3, 2), MoonVeto.UNKNOWN);
        C.due("longest(-1, 0)", x.longest(-1, 0), MoonVeto.UNKNOWN);
        C.due("longest(0, 2)", x.longest(0, 2), MoonVeto.OUTSIDE);
        C.due("longest(0, -1)", x.longest(0, -1), MoonVeto.OUTSIDE);
    }

    private static void worth() {
        C.part("16 worth");
        MoonVeto x = Checks.of("m006010;b10669;r10603;r20613");
        C.due("worth(0)", x.worth(0), 1000);
        C.due("worth(1)", x.worth(1), 990);
        C.due("worth(2)", x.worth(2), 1000);
        C.due("holds(1)", x.holds(1), 10);
        MoonVeto needy = Checks.of("m006010;b10669;b20069");
        C.due("worth(0): what needs it", needy.worth(0), 1089);
        C.due("worth(1)", needy.worth(1), 1000);
        needy.move(0, 60);
        C.due("worth(0): struck", needy.worth(0), 1000);
        MoonVeto both = Checks.of("m006010;b10669;b20069;b30169;r40069");
        C.due("worth(0): all that need it", both.worth(0), 1000 + 89 + 79 + 69);
        C.due("worth(4)", both.worth(4), MoonVeto.UNKNOWN);
        C.due("worth(-1)", both.worth(-1), MoonVeto.UNKNOWN);
    }

    private static void share(MoonVeto x, int b, int day, int upper, int lower) {
        C.due("odds(" + b + ", " + day + ", 0)", x.odds(b, day, 0), upper);
        C.due("odds(" + b + ", " + day + ", 1)", x.odds(b, day, 1), lower);
    }

    private static void odds() {
        C.part("23 odds");
        MoonVeto x = Checks.of(TWO_WAYS);
        share(x, 0, 10, 1, 1);
        share(x, 0, 2, 0, 1);
        share(x, 0, 20, 0, 1);
        share(x, 0, 50, 1, 2);
        share(x, 0, 80, 3, 4);
        share(x, 1, 80, 1, 4);
        share(x, 2, 80, 1, 2);
        x.cloud(30, true);
        x.cloud(60, true);
        share(x, 0, 80, 3, 4);
        C.due("many(4)", x.many(4), 2);
        C.due("force(80)", x.force(80), 13);
        MoonVeto longWay = Checks.of(LONG_WAY);
        share(longWay, 0, 80, 5, 8);
        share(longWay, 0, 50, 1, 4);
        MoonVeto chain = Checks.of("m002029;b00669;b10069;b20169;b30269;b40369;b50469");
        share(chain, 5, 109, 1, 64);
        MoonVeto alike = Checks.of("m002029;b01669;b10069;b20169;b30269;b40369;b50469");
        share(alike, 1, 109, 1, 2);
        C.due("odds(6, 0, 0)", chain.odds(6, 0, 0), MoonVeto.LOST);
        C.due("odds(-1, 0, 0)", chain.odds(-1, 0, 0), MoonVeto.LOST);
        C.due("odds(0, 110, 0)", chain.odds(0, 110, 0), MoonVeto.LOST);
        C.due("odds(0, -1, 0)", chain.odds(0, -1, 0), MoonVeto.LOST);
        C.due("odds(0, 0, 2)", chain.odds(0, 0, 2), MoonVeto.LOST);
        C.due("odds(0, 0, -1)", chain.odds(0, 0, -1), MoonVeto.LOST);
    }
}
