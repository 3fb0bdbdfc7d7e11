/** Promises 19 and 20: trap, size. */
public final class TrapAndSizeTest {
    private static final int MAX = Integer.MAX_VALUE;
    private static final int MIN = Integer.MIN_VALUE;

    public static void main(String[] args) {
        trapTellsTheLatestOfTheCallsThatMayTrap();
        otherCallsLeaveTheTrap();
        sizesOfAll();
        sizeRefuses();
        Check.finish();
    }

    private static PagedMemory oneOfEach() {
        PagedMemory x = new PagedMemory();
        x.memory(1, 5);
        x.table(112, 3, -7);
        x.data(0x0102, 2, false);
        x.element(4, false);
        return x;
    }

    private static void trapTellsTheLatestOfTheCallsThatMayTrap() {
        PagedMemory x = oneOfEach();
        Runnable[] fine = {() -> x.load(0, 40, 0, 0), () -> x.store(0, 54, 0, 0, 1), () -> x.fill(0, 0, 0, 1),
            () -> x.copy(0, 0, 1, 1), () -> x.init(0, 0, 0, 0, 1), () -> x.get(0, 0), () -> x.set(0, 0, 0),
            () -> x.fillTable(0, 0, 0, 1), () -> x.copyTable(0, 0, 0, 1, 1), () -> x.initTable(0, 0, 0, 0, 1)};
        Runnable[] beyond = {() -> x.load(0, 40, 253, 0), () -> x.store(0, 54, 253, 0, 1), () -> x.fill(0, 256, 0, 1),
            () -> x.copy(0, 256, 1, 1), () -> x.init(0, 0, 0, 2, 1), () -> x.get(0, 3), () -> x.set(0, 3, 0),
            () -> x.fillTable(0, 3, 0, 1), () -> x.copyTable(0, 0, 0, 3, 1), () -> x.initTable(0, 0, 0, 1, 1)};
        Runnable[] illegal = {() -> x.load(1, 40, 0, 0), () -> x.store(0, 53, 0, 0, 1), () -> x.fill(1, 0, 0, 1),
            () -> x.copy(1, 0, 1, 1), () -> x.init(0, 1, 0, 0, 1), () -> x.get(1, 0), () -> x.set(0, 0, -2),
            () -> x.fillTable(0, 0, -2, 1), () -> x.copyTable(0, 1, 0, 1, 1), () -> x.initTable(0, 1, 0, 0, 1)};
        for (int i = 0; i < 10; i++) {
            int number = i < 5 ? 4 : 5;
            Check.traps(x, number, "trapping call " + i, beyond[i]);
            Check.due("trap() again", number, x::trap);
            Check.passes("fine call " + i, fine[i]);
            Check.due("trap() after fine call " + i, 0, x::trap);
            Check.traps(x, 9 - number, "a trap of the other kind", beyond[9 - i]);
            Check.illegal(x, "illegal call " + i, illegal[i]);
        }
    }

    private static void otherCallsLeaveTheTrap() {
        PagedMemory x = oneOfEach();
        Check.traps(x, 5, "get beyond", () -> x.get(0, 3));
        Runnable[] others = {() -> x.memory(1, 1), () -> x.memory(-1, 1), () -> x.grow(0, 1), () -> x.grow(9, 1),
            () -> x.data(0, 1, false), () -> x.data(0, 9, false), () -> x.drop(0, false), () -> x.drop(0, true),
            () -> x.table(111, 1, 1), () -> x.table(0, 1, 1), () -> x.growTable(0, 1, 1), () -> x.growTable(9, 1, 1),
            () -> x.element(1, false), () -> x.element(-2, false), () -> x.size(0, 0), () -> x.size(99, 0)};
        for (int i = 0; i < others.length; i++) {
            Check.passes("other call " + i, others[i]);
            Check.due("trap() after other call " + i, 5, x::trap);
        }
        Check.compare("drop of none", "throws.IllegalArgumentException", Check.answer(() -> x.drop(9, false)));
        Check.due("trap() after drop of none", 5, x::trap);
        PagedMemory y = oneOfEach();
        Check.due("another object's trap()", 0, y::trap);
    }

    private static void sizesOfAll() {
        PagedMemory x = oneOfEach();
        x.memory(2, 65536);
        x.table(111, 10, MIN);
        x.table(112, 0, MAX);
        x.data(0, 5, false);
        x.data(0, 0, false);
        x.data(0, 0, false);
        x.element(1, false);
        x.element(1, true);
        x.element(1, true);
        // what, k, due
        int[][] due = {{0, 0, 1}, {0, 1, 2}, {1, 0, 5}, {1, 1, 65536}, {2, 0, 3}, {2, 1, 10}, {2, 2, 0}, {3, 0, -7},
            {3, 1, MIN}, {3, 2, MAX}, {4, 0, 112}, {4, 1, 111}, {4, 2, 112}, {5, 0, 2}, {5, 1, 5}, {5, 2, 0}, {5, 3, 0},
            {6, 0, 1}, {6, 1, 3}};
        for (int[] d : due) {
            Check.due("size(" + d[0] + ", " + d[1] + ")", d[2], () -> x.size(d[0], d[1]));
        }
        int[] counts = {45, 187, 2, 3, 4, 2};
        for (int k : new int[] {0, 1, 7, -1, MIN, MAX}) {
            for (int i = 0; i < counts.length; i++) {
                int what = 7 + i;
                Check.due("size(" + what + ", " + k + ")", counts[i], () -> x.size(what, k));
            }
        }
    }

    private static void sizeRefuses() {
        PagedMemory x = oneOfEach();
        for (int what = 0; what <= 6; what++) {
            for (int k : new int[] {-1, 1, 2, 6, 24, MIN, MAX}) {
                int w = what;
                Check.due("size(" + what + ", " + k + ")", -1, () -> x.size(w, k));
            }
        }
        for (int what : new int[] {-1, 13, 14, MIN, MAX}) {
            Check.due("size(" + what + ", 0)", -1, () -> x.size(what, 0));
        }
    }
}
