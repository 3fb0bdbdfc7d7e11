import java.util.function.LongSupplier;

/** Long runs of mixed calls on PagedMemory and on the model: both give the same answers. */
public final class ModelTest {
    private static final int RUNS = 3000;
    private static final int CALLS = 512;
    private static final int[] EXTREMES = {-1, -2, Integer.MIN_VALUE, Integer.MAX_VALUE, 1 << 24, -256, -4, 65536,
        65537, 0x7FFFFF00};

    private final PagedMemory x = new PagedMemory();
    private final Model m = new Model();
    private final int run;
    private long state;

    private ModelTest(int run) {
        this.run = run;
        this.state = 1000003L * run + 12345;
    }

    public static void main(String[] args) {
        for (int run = 0; run < RUNS; run++) {
            ModelTest test = new ModelTest(run);
            for (int i = 0; i < CALLS; i++) {
                test.oneCall();
            }
        }
        Check.finish();
    }

    /** A number from 0 up to below the bound; the same ones in every run of the tests. */
    private int below(int bound) {
        state = state * 6364136223846793005L + 1442695040888963407L;
        return (int) ((state >>> 33) % bound);
    }

    private boolean rarely() {
        return below(40) == 0;
    }

    private int extreme() {
        return EXTREMES[below(EXTREMES.length)];
    }

    private int which(int count) {
        return rarely() ? extreme() : below(10) == 0 ? count : below(Math.max(1, count));
    }

    private int someMemory() {
        return which(m.size(9, 0));
    }

    private int someTable() {
        return which(m.size(10, 0));
    }

    private int someSegment(boolean references) {
        return which(m.size(references ? 12 : 11, 0));
    }

    /** A place in a row of this length: mostly inside or just at its end. */
    private int place(int length) {
        int known = Math.max(0, length);
        if (rarely()) {
            return extreme();
        }
        return below(4) == 0 ? Math.max(0, known - below(10) + 2) : below(known + 1);
    }

    private int stretch(int length) {
        return rarely() ? extreme() : below(3) == 0 ? below(Math.max(0, length) + 2) : below(6);
    }

    private int reference() {
        return rarely() ? extreme() : below(50) - 1;
    }

    private long number() {
        return ((long) below(1 << 30) << 34) ^ ((long) below(1 << 30) << 15) ^ below(1 << 30);
    }

    private void both(String call, LongSupplier one, LongSupplier other) {
        Check.compare("run " + run + ": " + call, Check.answer(other), Check.answer(one));
    }

    private void both(String call, Runnable one, Runnable other) {
        Check.compare("run " + run + ": " + call, Check.answer(other), Check.answer(one));
    }

    private void oneCall() {
        int kind = below(40);
        if (kind < 4) {
            makeOrGrow();
        } else if (kind < 8) {
            segments();
        } else if (kind < 24) {
            memoryCall(below(6));
        } else if (kind < 36) {
            tableCall(below(6));
        } else if (kind < 38) {
            both("trap()", x::trap, m::trap);
        } else {
            int what = below(15) - 1;
            int k = which(4);
            both("size(" + what + ", " + k + ")", () -> x.size(what, k), () -> m.size(what, k));
        }
    }

    private void makeOrGrow() {
        int n = rarely() ? extreme() : below(6);
        int limit = rarely() ? extreme() : below(40);
        int type = rarely() ? extreme() : 111 + below(2);
        int reference = reference();
        int memory = someMemory();
        int table = someTable();
        switch (below(4)) {
            case 0:
                both("memory(" + n + ", " + limit + ")", () -> x.memory(n, limit), () -> m.memory(n, limit));
                break;
            case 1:
                both("grow(" + memory + ", " + n + ")", () -> x.grow(memory, n), () -> m.grow(memory, n));
                break;
            case 2:
                both("table(" + type + ", " + n + ", " + limit + ")", () -> x.table(type, n, limit),
                    () -> m.table(type, n, limit));
                break;
            default:
                both("growTable(" + table + ", " + n + ", " + reference + ")", () -> x.growTable(table, n, reference),
                    () -> m.growTable(table, n, reference));
        }
    }

    private void segments() {
        long bytes = number();
        int n = rarely() ? extreme() : below(10);
        boolean more = below(3) != 0;
        boolean references = below(2) == 0;
        int reference = reference();
        int segment = someSegment(references);
        switch (below(9)) {
            case 0:
                both("drop(" + segment + ", " + references + ")", () -> x.drop(segment, references),
                    () -> m.drop(segment, references));
                break;
            case 1: case 2: case 3: case 4:
                both("data(" + bytes + ", " + n + ", " + more + ")", () -> x.data(bytes, n, more),
                    () -> m.data(bytes, n, more));
                break;
            default:
                both("element(" + reference + ", " + more + ")", () -> x.element(reference, more),
                    () -> m.element(reference, more));
        }
    }

    private void memoryCall(int kind) {
        int memory = someMemory();
        int length = m.size(0, memory) * 256;
        int segment = someSegment(false);
        int to = place(length);
        int from = place(kind == 4 ? m.size(5, segment) : length);
        int n = stretch(length);
        int offset = rarely() ? extreme() : below(4);
        int load = rarely() ? extreme() : 39 + below(16);
        int store = rarely() ? extreme() : 53 + below(11);
        int value = extreme() ^ below(1000);
        long number = number();
        String stretch = "(" + memory + ", " + to + ", " + from + ", " + n + ", segment " + segment + ")";
        switch (kind) {
            case 0:
                both("store(" + memory + ", " + store + ", " + to + ", " + offset + ", " + number + ")",
                    () -> x.store(memory, store, to, offset, number), () -> m.store(memory, store, to, offset, number));
                break;
            case 1:
                both("fill" + stretch, () -> x.fill(memory, to, value, n), () -> m.fill(memory, to, value, n));
                break;
            case 2:
                both("copy" + stretch, () -> x.copy(memory, to, from, n), () -> m.copy(memory, to, from, n));
                break;
            case 4:
                both("init" + stretch, () -> x.init(memory, segment, to, from, n),
                    () -> m.init(memory, segment, to, from, n));
                break;
            default:
                both("load(" + memory + ", " + load + ", " + to + ", " + offset + ")",
                    () -> x.load(memory, load, to, offset), () -> m.load(memory, load, to, offset));
        }
    }

    private void tableCall(int kind) {
        int table = someTable();
        int other = someTable();
        int segment = someSegment(true);
        int to = place(m.size(2, table));
        int from = place(kind == 3 ? m.size(6, segment) : m.size(2, other));
        int n = stretch(m.size(2, table));
        int reference = reference();
        String stretch = "(" + table + ", " + other + ", " + to + ", " + from + ", " + n + ", segment " + segment + ")";
        switch (kind) {
            case 0:
                both("set(" + table + ", " + to + ", " + reference + ")", () -> x.set(table, to, reference),
                    () -> m.set(table, to, reference));
                break;
            case 1:
                both("fillTable" + stretch, () -> x.fillTable(table, to, reference, n),
                    () -> m.fillTable(table, to, reference, n));
                break;
            case 2:
                both("copyTable" + stretch, () -> x.copyTable(table, other, to, from, n),
                    () -> m.copyTable(table, other, to, from, n));
                break;
            case 3:
                both("initTable" + stretch, () -> x.initTable(table, segment, to, from, n),
                    () -> m.initTable(table, segment, to, from, n));
                break;
            default:
                both("get(" + table + ", " + to + ")", () -> x.get(table, to), () -> m.get(table, to));
        }
    }
}
