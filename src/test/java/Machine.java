/**
 * The sheets and parts once more, by what the Java machine does itself: rows are its arrays, faults are what
 * it throws, kinds are its classes. The tests compare the program, which may let it throw nothing, with it.
 */
final class Machine {
    /** What a body of a call does; it may throw what the machine throws. */
    interface Body {
        long does();
    }

    /** Lends the bill a body for sealing. */
    interface Sealed {
        int number();

        Machine machine();

        default int sealed() {
            machine().leave(4);
            return number();
        }
    }

    static class Act implements Sealed {
        private final Machine machine;
        private final int number;
        private final int lasts;

        Act(Machine machine, int number, int lasts) {
            this.machine = machine;
            this.number = number;
            this.lasts = lasts;
        }

        @Override
        public int number() {
            return number;
        }

        @Override
        public Machine machine() {
            return machine;
        }

        /** No class may put another in its place, so a repeal can come to it past the sunset's. */
        final int toldAsAct() {
            machine.leave(1);
            return lasts;
        }

        int told() {
            return toldAsAct();
        }
    }

    static class Sunset extends Act {
        Sunset(Machine machine, int number, int lasts) {
            super(machine, number, lasts);
        }

        @Override
        int told() {
            machine().leave(2);
            return super.told() + 100;
        }
    }

    static final class Repeal extends Sunset {
        Repeal(Machine machine, int number, int lasts) {
            super(machine, number, lasts);
        }

        @Override
        int told() {
            machine().leave(3);
            return super.told() + toldAsAct();
        }

        @Override
        public int sealed() {
            machine().leave(5);
            return 40;
        }
    }

    final Object[] sheets = new Object[4];
    Act[] acts = {};
    Model council;
    int trace;
    int fault;

    void leave(int number) {
        trace = 31 * trace + number;
    }

    /** The answer of a body, or that of the fault that the machine comes to in it. */
    private long tried(boolean isLong, Body body) {
        fault = 0;
        try {
            return body.does();
        } catch (NullPointerException e) {
            fault = 1;
        } catch (ClassCastException | ArrayStoreException e) {
            fault = 2;
        } catch (IndexOutOfBoundsException e) {
            fault = 3;
        } catch (NegativeArraySizeException e) {
            fault = 4;
        }
        return isLong ? Long.MIN_VALUE : -10 - fault;
    }

    private long refused(long answer) {
        fault = 0;
        return answer;
    }

    private static boolean isNone(int v, int many) {
        return v < 0 || v >= many;
    }

    private static Object rowOf(int lane, int n) {
        return lane == 0 ? new byte[n] : lane == 1 ? new short[n] : (Object) new int[n];
    }

    long sheet(int k, int lane, int n) {
        if (isNone(k, 4)) {
            return refused(-1);
        }
        if (isNone(lane, 3) || n > 60) {
            return refused(-2);
        }
        return tried(false, () -> {
            sheets[k] = rowOf(lane, n);
            return 1;
        });
    }

    long lose(int k) {
        if (isNone(k, 4)) {
            return -1;
        }
        int had = sheets[k] == null ? 0 : 1;
        sheets[k] = null;
        return had;
    }

    long put(int k, int i, int v) {
        if (isNone(k, 4)) {
            return refused(-1);
        }
        return tried(false, () -> {
            Object row = sheets[k];
            if (row instanceof byte[] bytes) {
                bytes[i] = (byte) v;
            } else if (row instanceof short[] shorts) {
                shorts[i] = (short) v;
            } else {
                ((int[]) row)[i] = v;
            }
            return 1;
        });
    }

    private long at(int k, int i, int lane) {
        switch (lane) {
            case 0: return ((byte[]) sheets[k])[i];
            case 1: return ((short[]) sheets[k])[i];
            default: return ((int[]) sheets[k])[i];
        }
    }

    long cell(int k, int i, int lane) {
        if (isNone(k, 4) || isNone(lane, 3)) {
            return refused(Long.MIN_VALUE);
        }
        return tried(true, () -> at(k, i, lane));
    }

    long copy(int k, int i, int other, int j, int n) {
        if (isNone(k, 4) || isNone(other, 4)) {
            return refused(-1);
        }
        return tried(false, () -> {
            System.arraycopy(sheets[k], i, sheets[other], j, n);
            return n;
        });
    }

    /** A row of the machine's own of n cells from i on: cast, looked for, made, filled, each in its turn. */
    private Object taken(int k, int lane, int i, int n) {
        Object row;
        if (lane == 0) {
            row = (byte[]) sheets[k];
        } else if (lane == 1) {
            row = (short[]) sheets[k];
        } else {
            row = (int[]) sheets[k];
        }
        java.util.Objects.requireNonNull(row);
        // No sheet has more than 60, so a greater length need not be made to come to the same fault.
        Object cells = rowOf(lane, Math.min(n, 61));
        System.arraycopy(row, i, cells, 0, n);
        return cells;
    }

    long council(int k, int lane, int i, int n) {
        if (isNone(k, 4)) {
            return refused(-1);
        }
        if (isNone(lane, 3)) {
            return refused(-2);
        }
        return tried(false, () -> founded(taken(k, lane, i, n)));
    }

    private long founded(Object cells) {
        StringBuilder text = new StringBuilder();
        for (int i = 0; i < java.lang.reflect.Array.getLength(cells); i++) {
            long code = java.lang.reflect.Array.getLong(cells, i);
            text.append(code >= 0 && code < 128 ? (char) code : '?');
        }
        int place = Model.firstFault(text.toString());
        if (place != -9) {
            return -100 - place;
        }
        council = new Model(text.toString());
        acts = new Act[council.count];
        for (int b = 0; b < acts.length; b++) {
            int lasts = council.lasts[b];
            switch (council.kind[b]) {
                case 0 -> acts[b] = new Act(this, b, lasts);
                case 1 -> acts[b] = new Sunset(this, b, lasts);
                default -> acts[b] = new Repeal(this, b, lasts);
            }
        }
        return acts.length;
    }

    long chronicle(int k, int lane, int i, int n) {
        if (isNone(k, 4)) {
            return refused(-1);
        }
        if (isNone(lane, 3)) {
            return refused(-2);
        }
        return tried(false, () -> {
            Object cells = taken(k, lane, i, n);
            return acts.length == 0 ? -3 : firstUnlike(cells);
        });
    }

    private long firstUnlike(Object cells) {
        for (int day = 0; day < java.lang.reflect.Array.getLength(cells); day++) {
            if (java.lang.reflect.Array.getLong(cells, day) != council.force(day)) {
                return day;
            }
        }
        return -9;
    }

    long tell(int b) {
        return isNone(b, acts.length) ? -1 : acts[b].told();
    }

    long seal(int b) {
        return isNone(b, acts.length) ? -1 : acts[b].sealed();
    }

    long as(int b, int kind) {
        if (isNone(b, acts.length)) {
            return refused(-1);
        }
        if (isNone(kind, 3)) {
            return refused(-2);
        }
        return tried(false, () -> {
            Class<?> of = kind == 0 ? Act.class : kind == 1 ? Sunset.class : Repeal.class;
            of.cast(acts[b]);
            return 1;
        });
    }
}
