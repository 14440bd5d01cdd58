import java.util.ArrayList;
import java.util.List;
import java.util.regex.Matcher;
import java.util.regex.Pattern;

/**
 * The council once more, by the document's words alone and by the slowest ways: every day, every set of
 * full moons, every text tried for itself. The tests compare the program with it.
 */
final class Model {
    private static final Pattern TEXT = Pattern.compile(
            "m[0-2][0-9](?:[2-5][0-9]|60)[12][0-9](?:;[bsr][0-9][0-9][0-6][0-6][1-9]){1,6}");

    int begins, upper, lower, span, count;
    int[] kind, day, needs, names, lasts;
    boolean[] clouded = new boolean[110];
    final List<int[]> readings = new ArrayList<>();
    int doomed = -1;
    /** What has been found of the council as it is: for each bill 1 if it passes, 2 if it does not. */
    private final int[] found = new int[6];

    /** The first fault of a text, or -9. */
    static int firstFault(String text) {
        for (int n = 1; n <= text.length(); n++) {
            Matcher m = TEXT.matcher(text.substring(0, n));
            if (!m.matches() && !m.hitEnd()) {
                return n - 1;
            }
        }
        return TEXT.matcher(text).matches() ? -9 : text.length();
    }

    Model(String text) {
        begins = Integer.parseInt(text.substring(1, 3));
        upper = Integer.parseInt(text.substring(3, 5));
        lower = text.charAt(5) - '0';
        span = text.charAt(6) - '0';
        String[] bills = text.substring(8).split(";");
        count = bills.length;
        kind = new int[count];
        day = new int[count];
        needs = new int[count];
        names = new int[count];
        lasts = new int[count];
        for (int b = 0; b < count; b++) {
            kind[b] = "bsr".indexOf(bills[b].charAt(0));
            day[b] = Integer.parseInt(bills[b].substring(1, 3));
            needs[b] = bills[b].charAt(3) - '0';
            names[b] = bills[b].charAt(4) - '0';
            lasts[b] = bills[b].charAt(5) - '0';
        }
    }

    int moon(int n) {
        return (int) Math.floor(begins + (double) n * upper / lower);
    }

    int moons() {
        int n = 0;
        while (moon(n) <= 109) {
            n++;
        }
        return n;
    }

    int struck(int b) {
        for (int d = day[b]; d <= day[b] + span; d++) {
            for (int n = 0; n < 20; n++) {
                if (moon(n) == d && !clouded[d]) {
                    return d;
                }
            }
        }
        return -9;
    }

    /** To be called when anything has been changed. */
    private void changed() {
        java.util.Arrays.fill(found, 0);
    }

    private boolean passes(int b) {
        if (found[b] == 0) {
            boolean is = b != doomed && struck(b) == -9
                    && (needs[b] == 6 || needs[b] < count && on(needs[b], day[b]));
            found[b] = is ? 1 : 2;
        }
        return found[b] == 1;
    }

    private boolean on(int b, int d) {
        if (d <= day[b] || kind[b] == 1 && d > day[b] + 10 * lasts[b] || !passes(b)) {
            return false;
        }
        for (int r = 0; r < count; r++) {
            boolean later = day[r] > day[b] || day[r] == day[b] && r > b;
            if (kind[r] == 2 && names[r] == b && later && on(r, d)) {
                return false;
            }
        }
        return true;
    }

    int passing() {
        changed();
        int set = 0;
        for (int b = 0; b < count; b++) {
            set |= passes(b) ? 1 << b : 0;
        }
        return set;
    }

    int force(int d) {
        changed();
        int set = 0;
        for (int b = 0; b < count; b++) {
            set |= on(b, d) ? 1 << b : 0;
        }
        return set;
    }

    boolean inForce(int b, int d) {
        changed();
        return on(b, d);
    }

    int holds(int b) {
        changed();
        int n = 0;
        for (int d = 0; d <= 109; d++) {
            n += on(b, d) ? 1 : 0;
        }
        return n;
    }

    private void cloudBy(int set) {
        for (int n = 0; n < moons(); n++) {
            clouded[moon(n)] = (set >> n & 1) != 0;
        }
    }

    int buy(int b, int d) {
        boolean[] was = clouded.clone();
        int already = 0;
        for (int n = 0; n < moons(); n++) {
            already |= clouded[moon(n)] ? 1 << n : 0;
        }
        int best = -9;
        for (int set = 0; set < 1 << moons(); set++) {
            if ((set & already) != 0) {
                continue;
            }
            cloudBy(set | already);
            if (inForce(b, d) && (best == -9 || Integer.bitCount(set) < Integer.bitCount(best))) {
                best = set;
            }
        }
        clouded = was;
        return best;
    }

    long[] odds(int b, int d) {
        boolean[] was = clouded.clone();
        long hits = 0;
        for (int set = 0; set < 1 << moons(); set++) {
            cloudBy(set);
            hits += inForce(b, d) ? 1 : 0;
        }
        clouded = was;
        long all = 1L << moons();
        long g = java.math.BigInteger.valueOf(hits).gcd(java.math.BigInteger.valueOf(all)).longValue();
        return new long[] {hits / g, all / g};
    }

    int when(int b, int d) {
        int was = day[b];
        int first = -9;
        for (int m = 99; m >= 0; m--) {
            day[b] = m;
            first = inForce(b, d) ? m : first;
        }
        day[b] = was;
        return first;
    }

    int[] longest(int b) {
        int was = day[b];
        int[] best = {0, -1};
        for (int m = 99; m >= 0; m--) {
            day[b] = m;
            int h = holds(b);
            if (h >= best[1]) {
                best = new int[] {m, h};
            }
        }
        day[b] = was;
        return best;
    }

    int worth(int b) {
        int sum = 1000;
        for (int other = 0; other < count; other++) {
            if (other != b) {
                sum += holds(other);
                doomed = b;
                sum -= holds(other);
                doomed = -1;
            }
        }
        return sum;
    }

    private boolean agrees() {
        for (int[] r : readings) {
            if (inForce(r[0], r[1]) != (r[2] == 1)) {
                return false;
            }
        }
        return true;
    }

    int spans() {
        int was = span;
        int set = 0;
        for (span = 0; span <= 9; span++) {
            set |= agrees() ? 1 << span : 0;
        }
        span = was;
        return set;
    }

    int origins() {
        int was = begins;
        int set = 0;
        for (begins = 0; begins <= 29; begins++) {
            set |= agrees() ? 1 << begins : 0;
        }
        begins = was;
        return set;
    }

    int kinds(int b) {
        int was = kind[b];
        int set = 0;
        for (kind[b] = 0; kind[b] <= 2; kind[b]++) {
            set |= agrees() ? 1 << kind[b] : 0;
        }
        kind[b] = was;
        return set;
    }

    int[] moved(int b) {
        int was = day[b];
        int[] found = {0, -9};
        for (int m = 99; m >= 0; m--) {
            day[b] = m;
            if (agrees()) {
                found = new int[] {found[0] + 1, m};
            }
        }
        day[b] = was;
        return found;
    }
}
