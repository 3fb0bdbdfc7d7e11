/** Promises 6 to 8: fill, copy, init. */
public final class StretchTest {
    private static final int MAX = Integer.MAX_VALUE;
    private static final int MIN = Integer.MIN_VALUE;
    /** Pairs of a place and a number whose sum is beyond 512, wrapped around or not. */
    private static final int[][] BEYOND = {{513, 0}, {512, 1}, {0, 513}, {511, 2}, {-1, 0}, {-1, 1}, {0, -1}, {1, -1},
        {-1, -1}, {MIN, MIN}, {MIN, 0}, {MAX, MAX}, {0, MIN}, {-512, 512}};

    public static void main(String[] args) {
        fillSetsTheLowestByte();
        fillRefuses();
        copyAsIfAllWereTakenFirst();
        copyRefuses();
        initTakesFromASegment();
        initRefuses();
        Check.finish();
    }

    /** Two memories of two pages each; the first has at each address its lowest byte. */
    private static PagedMemory counted() {
        PagedMemory x = new PagedMemory();
        x.memory(2, 4);
        x.memory(2, 4);
        for (int at = 0; at < 512; at += 8) {
            long eight = 0;
            for (int k = 0; k < 8; k++) {
                eight |= (long) ((at + k) & 0xFF) << (8 * k);
            }
            x.store(0, 55, at, 0, eight);
        }
        return x;
    }

    private static void unchanged(PagedMemory x, String after) {
        for (int at = 0; at < 512; at += 73) {
            int address = at;
            Check.due(after + ": byte " + at, at & 0xFF, () -> x.load(0, 45, address, 0));
        }
        Check.due(after + ": byte 511", 255, () -> x.load(0, 45, 511, 0));
        Check.due(after + ": the next memory", 0, () -> x.load(1, 41, 0, 0));
    }

    private static void fillSetsTheLowestByte() {
        PagedMemory x = counted();
        Check.passes("fill over two pages", () -> x.fill(0, 250, 0x1FE, 10));
        Check.due("before it", 249, () -> x.load(0, 45, 249, 0));
        for (int at = 250; at < 260; at++) {
            int address = at;
            Check.due("filled byte " + at, 0xFE, () -> x.load(0, 45, address, 0));
        }
        Check.due("behind it", 4, () -> x.load(0, 45, 260, 0));
        Check.passes("fill with -1", () -> x.fill(0, 0, -1, 1));
        Check.due("filled with -1", 0x1FF, () -> x.load(0, 47, 0, 0));
        Check.passes("fill 0 at the end", () -> x.fill(0, 512, 9, 0));
        Check.passes("fill 0 inside", () -> x.fill(0, 5, 9, 0));
        Check.due("filled by none", 5, () -> x.load(0, 45, 5, 0));
        Check.passes("fill all", () -> x.fill(0, 0, 7, 512));
        Check.due("first", 7, () -> x.load(0, 45, 0, 0));
        Check.due("last", 7, () -> x.load(0, 45, 511, 0));
        Check.due("the next memory", 0, () -> x.load(1, 45, 0, 0));
        Check.due("trap() of none", 0, x::trap);
    }

    private static void fillRefuses() {
        PagedMemory x = counted();
        for (int memory : new int[] {-1, 2, 6, MIN, MAX}) {
            Check.illegal(x, "fill memory " + memory, () -> x.fill(memory, 0, 9, 0));
            Check.illegal(x, "fill beyond memory " + memory, () -> x.fill(memory, -1, 9, 1));
        }
        for (int[] b : BEYOND) {
            Check.traps(x, 4, "fill " + b[1] + " at " + b[0], () -> x.fill(0, b[0], 0xAB, b[1]));
        }
        unchanged(x, "fill that traps");
    }

    private static void copyAsIfAllWereTakenFirst() {
        int[][] moves = {{10, 0, 300}, {0, 10, 300}, {5, 5, 100}, {1, 0, 511}, {0, 1, 511}, {300, 20, 200},
            {20, 300, 200}, {0, 0, 512}, {7, 9, 0}, {255, 256, 2}};
        for (int[] m : moves) {
            PagedMemory x = counted();
            String name = "copy to " + m[0] + " from " + m[1] + " of " + m[2];
            Check.passes(name, () -> x.copy(0, m[0], m[1], m[2]));
            for (int at = 0; at < 512; at += 1) {
                int address = at;
                boolean moved = at >= m[0] && at < m[0] + m[2];
                int due = (moved ? at - m[0] + m[1] : at) & 0xFF;
                // A part of the addresses, so that an object stays below 512 calls; ends are always among them.
                if (at % 3 == 0 || Math.abs(at - m[0]) < 3 || Math.abs(at - m[0] - m[2]) < 3) {
                    Check.due(name + ": byte " + at, due, () -> x.load(0, 45, address, 0));
                }
            }
        }
        PagedMemory x = counted();
        Check.passes("copy 0 at both ends", () -> x.copy(0, 512, 512, 0));
        Check.due("trap() of none", 0, x::trap);
        Check.passes("copy in the other memory", () -> x.copy(1, 0, 256, 256));
        unchanged(x, "copy elsewhere");
    }

    private static void copyRefuses() {
        PagedMemory x = counted();
        for (int memory : new int[] {-1, 2, 6, MIN, MAX}) {
            Check.illegal(x, "copy in memory " + memory, () -> x.copy(memory, 0, 0, 0));
            Check.illegal(x, "copy beyond memory " + memory, () -> x.copy(memory, -1, 0, 1));
        }
        for (int[] b : BEYOND) {
            Check.traps(x, 4, "copy " + b[1] + " to " + b[0], () -> x.copy(0, b[0], 3, b[1]));
            Check.traps(x, 4, "copy " + b[1] + " from " + b[0], () -> x.copy(0, 3, b[0], b[1]));
        }
        unchanged(x, "copy that traps");
    }

    private static void initTakesFromASegment() {
        PagedMemory x = counted();
        x.data(0x99L, 1, false);
        x.data(0x8877665544332211L, 8, false);
        x.data(0xAAL, 1, true);
        Check.passes("init 4 from 2", () -> x.init(0, 1, 254, 2, 4));
        Check.due("before it", 0xFD, () -> x.load(0, 45, 253, 0));
        Check.due("what came", 0x66554433L, () -> x.load(0, 40, 254, 0));
        Check.due("behind it", 2, () -> x.load(0, 45, 258, 0));
        Check.passes("init all at the end", () -> x.init(0, 1, 503, 0, 9));
        Check.due("all but the last", 0x8877665544332211L, () -> x.load(0, 41, 503, 0));
        Check.due("the last", 0xAA, () -> x.load(0, 45, 511, 0));
        Check.due("the next memory", 0, () -> x.load(1, 41, 0, 0));
        Check.passes("init of the first segment", () -> x.init(1, 0, 0, 0, 1));
        Check.due("its byte", 0x99, () -> x.load(1, 41, 0, 0));
        Check.passes("init 0 at both ends", () -> x.init(0, 1, 512, 9, 0));
        Check.due("trap() of none", 0, x::trap);
        x.drop(1, false);
        Check.passes("init 0 of a dropped one", () -> x.init(0, 1, 512, 0, 0));
        Check.traps(x, 4, "init 1 of a dropped one", () -> x.init(0, 1, 0, 0, 1));
        Check.traps(x, 4, "init 0 from 1 of a dropped one", () -> x.init(0, 1, 0, 1, 0));
    }

    private static void initRefuses() {
        PagedMemory x = counted();
        x.data(-1L, 8, false);
        x.data(-1L, 8, false);
        for (int none : new int[] {-1, 2, 6, 24, MIN, MAX}) {
            Check.illegal(x, "init memory " + none, () -> x.init(none, 0, 0, 0, 0));
            Check.illegal(x, "init from segment " + none, () -> x.init(0, none, 0, 0, 0));
            Check.illegal(x, "init beyond from segment " + none, () -> x.init(0, none, -1, -1, 1));
        }
        for (int[] b : BEYOND) {
            Check.traps(x, 4, "init " + b[1] + " to " + b[0], () -> x.init(0, 0, b[0], 0, b[1]));
            Check.traps(x, 4, "init " + b[1] + " from " + b[0], () -> x.init(0, 0, 0, b[0], b[1]));
        }
        Check.traps(x, 4, "init one beyond the segment", () -> x.init(0, 0, 0, 1, 8));
        Check.traps(x, 4, "init none beyond the segment", () -> x.init(0, 0, 0, 9, 0));
        Check.traps(x, 4, "init half beyond the memory", () -> x.init(0, 0, 508, 0, 8));
        Check.traps(x, 4, "init where a sum wraps around", () -> x.init(0, 0, 0, -1, 1));
        unchanged(x, "init that traps");
    }
}
