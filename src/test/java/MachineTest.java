import java.util.Random;

/** Runs of calls on sheets and parts by a fixed seed, each answer compared with that of the machine itself. */
public final class MachineTest {
    private static final Checks C = new Checks();
    private static final Random RANDOM = new Random(34);
    private static final int RUNS = 1500, MOST_CALLS = 512;
    /** A step makes no more calls than these: a text of 49 cells, and what it answers. */
    private static final int MOST_OF_A_STEP = 60;
    private static final String[] TEXTS = {
        "m055925;b01665;s02662;r03603", "m006010;r01661;r02601;s03663;b04664;r05635;s06616", "m292029;s99669",
        "m2;", "m006010;r01661;x"};

    private static MoonVeto x;
    private static Machine m;
    private static int calls;
    /** The lane of most rows of a run, so that not too many calls end with a fault. */
    private static int usual;

    public static void main(String[] args) {
        for (int run = 0; run < RUNS; run++) {
            C.part("run " + run);
            x = new MoonVeto();
            m = new Machine();
            calls = 0;
            usual = run % 3;
            text(0, usual);
            while (calls < MOST_CALLS - MOST_OF_A_STEP) {
                step();
            }
        }
        C.end("MachineTest");
    }

    private static int up(int n) {
        return RANDOM.nextInt(n);
    }

    /** A number of 0 .. n - 1 mostly, else one beyond, or far beyond. */
    private static int near(int n) {
        switch (up(16)) {
            case 0: return -1;
            case 1: return n;
            case 2: return up(2) == 0 ? Integer.MIN_VALUE : Integer.MAX_VALUE;
            default: return up(n);
        }
    }

    private static void due(String call, long got, long want) {
        calls += 3;
        C.due(call, got, want);
        C.due("fault() behind " + call, x.fault(), m.fault);
        C.due("trace() behind " + call, x.trace(), m.trace);
    }

    private static void step() {
        int k = up(8) == 0 ? near(4) : up(3);
        int lane = up(4) == 0 ? near(3) : usual;
        switch (up(10)) {
            case 0, 1 -> row(k, lane);
            case 2 -> due("lose(" + k + ")", x.lose(k), m.lose(k));
            case 3, 4 -> cells(k, lane);
            case 5, 6 -> copies(k);
            case 7 -> rows(k, lane);
            case 8 -> text(k, lane);
            default -> parts(near(6), near(3));
        }
    }

    private static void row(int k, int lane) {
        int n = up(6) == 0 ? near(61) : near(9);
        due("sheet(" + k + ", " + lane + ", " + n + ")", x.sheet(k, lane, n), m.sheet(k, lane, n));
    }

    private static void cells(int k, int lane) {
        int i = near(9);
        int v = up(2) == 0 ? RANDOM.nextInt() : (up(2) == 0 ? 127 : 32767) + up(2);
        due("put(" + k + ", " + i + ", " + v + ")", x.put(k, i, v), m.put(k, i, v));
        look(k, i, lane);
        look(k, near(9), lane);
    }

    private static void look(int k, int i, int lane) {
        due("cell(" + k + ", " + i + ", " + lane + ")", x.cell(k, i, lane), m.cell(k, i, lane));
    }

    private static void copies(int k) {
        int other = up(8) == 0 ? near(4) : up(3);
        int i = near(5);
        int j = near(5);
        int n = near(6);
        String call = "copy(" + k + ", " + i + ", " + other + ", " + j + ", " + n + ")";
        due(call, x.copy(k, i, other, j, n), m.copy(k, i, other, j, n));
        for (int at = 0; at < 9; at++) {
            look(other, at, up(4) == 0 ? near(3) : usual);
        }
    }

    private static void rows(int k, int lane) {
        int i = near(9);
        int n = near(9);
        String at = "(" + k + ", " + lane + ", " + i + ", " + n + ")";
        due("council" + at, x.council(k, lane, i, n), m.council(k, lane, i, n));
        due("chronicle" + at, x.chronicle(k, lane, i, n), m.chronicle(k, lane, i, n));
        // On the first days mostly nothing is in force, so a new row is a chronicle for some of them.
        if (up(2) == 0) {
            due("sheet of 12", x.sheet(k, lane, 12), m.sheet(k, lane, 12));
            int v = up(8);
            due("put at 7", x.put(k, 7, v), m.put(k, 7, v));
            int from = up(9);
            int many = up(9);
            String of = "(" + k + ", " + lane + ", " + from + ", " + many + ")";
            due("chronicle" + of, x.chronicle(k, lane, from, many), m.chronicle(k, lane, from, many));
        }
    }

    /** Codes of a text go to a sheet from a cell on, and a council is made of as many, or of another number. */
    private static void text(int k, int lane) {
        String text = TEXTS[up(TEXTS.length)];
        int i = up(3);
        x.sheet(k, lane, text.length() + 2);
        m.sheet(k, lane, text.length() + 2);
        for (int at = 0; at < text.length(); at++) {
            x.put(k, i + at, text.charAt(at));
            m.put(k, i + at, text.charAt(at));
        }
        calls += 1 + text.length();
        int n = up(8) == 0 ? near(text.length() + 3) : text.length();
        String call = "council(" + k + ", " + lane + ", " + i + ", " + n + ")";
        due(call, x.council(k, lane, i, n), m.council(k, lane, i, n));
        due("many(0)", x.many(0), m.acts.length);
    }

    private static void parts(int b, int kind) {
        due("tell(" + b + ")", x.tell(b), m.tell(b));
        due("seal(" + b + ")", x.seal(b), m.seal(b));
        due("as(" + b + ", " + kind + ")", x.as(b, kind), m.as(b, kind));
    }
}
