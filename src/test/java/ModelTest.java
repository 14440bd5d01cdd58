import java.util.Random;

/** Councils and texts by a fixed seed, each answer compared with that of the model. */
public final class ModelTest {
    private static final Checks C = new Checks();
    private static final Random RANDOM = new Random(20261118);

    public static void main(String[] args) {
        for (int k = 0; k < 20000; k++) {
            spoiltText(k);
        }
        for (int k = 0; k < 400; k++) {
            council(k);
        }
        C.end("ModelTest");
    }

    private static int up(int n) {
        return RANDOM.nextInt(n);
    }

    /** Days come from a few places, so that bills meet on one day and near full moons. */
    private static String text() {
        StringBuilder t = new StringBuilder("m");
        int upper = up(3) == 0 ? 20 + up(5) : 20 + up(41);
        t.append(String.format("%02d%02d%d%d", up(30), upper, 1 + up(2), up(10)));
        int bills = up(3) == 0 ? 1 + up(6) : 6;
        int spread = 1 + up(100);
        for (int b = 0; b < bills; b++) {
            int needs = up(3) == 0 ? up(7) : 6;
            t.append(';').append("bsrr".charAt(up(4)));
            t.append(String.format("%02d%d%d%d", up(spread), needs, up(7), 1 + up(9)));
        }
        return t.toString();
    }

    private static void spoiltText(int k) {
        StringBuilder t = new StringBuilder(text());
        String codes = "0123456789mbsr;:/6660";
        for (int times = up(3); times > 0 && t.length() > 0; times--) {
            int at = up(t.length());
            switch (up(4)) {
                case 0 -> t.setLength(at);
                case 1 -> t.deleteCharAt(at);
                case 2 -> t.insert(at, codes.charAt(up(codes.length())));
                default -> t.setCharAt(at, codes.charAt(up(codes.length())));
            }
        }
        int fault = Model.firstFault(t.toString());
        int want = fault == -9 ? t.length() / 7 - 1 : -100 - fault;
        C.part("text " + k);
        C.due("council of " + t, Checks.council(new MoonVeto(), t.toString()), want);
    }

    private static void council(int k) {
        String text = text();
        C.part("council " + k + " " + text);
        MoonVeto x = Checks.of(text);
        Model m = new Model(text);
        for (int round = 0; round < 3; round++) {
            days(x, m);
            trials(x, m);
            readings(x, m);
            change(x, m);
        }
    }

    private static void days(MoonVeto x, Model m) {
        for (int n = 0; n < 100; n += 9) {
            C.due("moon(" + n + ")", x.moon(n), m.moon(n));
        }
        C.due("passing()", x.passing(), m.passing());
        for (int d = 0; d <= 109; d++) {
            C.due("force(" + d + ")", x.force(d), m.force(d));
        }
        for (int b = 0; b < m.count; b++) {
            C.due("struck(" + b + ")", x.struck(b), m.struck(b));
            C.due("holds(" + b + ")", x.holds(b), m.holds(b));
        }
    }

    private static void trials(MoonVeto x, Model m) {
        for (int b = 0; b < m.count; b++) {
            int d = up(110);
            String at = "(" + b + ", " + d + ")";
            C.due("buy" + at, x.buy(b, d), m.buy(b, d));
            C.due("when" + at, x.when(b, d), m.when(b, d));
            long[] odds = m.odds(b, d);
            C.due("upper odds" + at, x.odds(b, d, 0), odds[0]);
            C.due("lower odds" + at, x.odds(b, d, 1), odds[1]);
            int[] longest = m.longest(b);
            C.due("longest(" + b + ", 0)", x.longest(b, 0), longest[0]);
            C.due("longest(" + b + ", 1)", x.longest(b, 1), longest[1]);
            C.due("worth(" + b + ")", x.worth(b), m.worth(b));
        }
    }

    private static void readings(MoonVeto x, Model m) {
        int back = up(m.readings.size() + 1);
        C.due("back(" + back + ")", x.back(back), m.readings.size() - back);
        for (int k = 0; k < back; k++) {
            m.readings.remove(m.readings.size() - 1);
        }
        for (int more = up(4); more > 0 && m.readings.size() < 8; more--) {
            int b = up(m.count);
            int d = up(110);
            boolean was = up(4) == 0 ? up(2) == 0 : m.inForce(b, d);
            C.due("reading", x.reading(b, d, was), m.readings.size());
            m.readings.add(new int[] {b, d, was ? 1 : 0});
        }
        C.due("spans()", x.spans(), m.spans());
        C.due("origins()", x.origins(), m.origins());
        for (int b = 0; b < m.count; b++) {
            C.due("kinds(" + b + ")", x.kinds(b), m.kinds(b));
            int[] moved = m.moved(b);
            C.due("moved(" + b + ", 0)", x.moved(b, 0), moved[0]);
            C.due("moved(" + b + ", 1)", x.moved(b, 1), moved[1]);
        }
    }

    private static void change(MoonVeto x, Model m) {
        int b = up(m.count);
        int d = up(100);
        C.due("move", x.move(b, d), m.day[b]);
        m.day[b] = d;
        int v = up(10);
        C.due("span", x.span(v), m.span);
        m.span = v;
        for (int times = up(6); times > 0; times--) {
            int night = up(3) == 0 ? up(110) : m.moon(up(m.moons()));
            boolean is = up(3) > 0;
            C.due("cloud", x.cloud(night, is), m.clouded[night] == is ? 0 : 1);
            m.clouded[night] = is;
        }
    }
}
