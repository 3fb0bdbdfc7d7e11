/** Promises 1 to 5: a new object, memory, grow, load, store. */
public final class MemoryTest {
    private static final int MAX = Integer.MAX_VALUE;
    private static final int MIN = Integer.MIN_VALUE;

    public static void main(String[] args) {
        newObjectIsEmpty();
        memoriesGetNumbers();
        memoryRefuses();
        atMostSixMemories();
        growAnswersWhatItHad();
        growRefuses();
        growKeepsTheOthers();
        loadsOfAllOperators();
        storesOfAllOperators();
        loadRefuses();
        storeRefuses();
        Check.finish();
    }

    private static void newObjectIsEmpty() {
        PagedMemory x = new PagedMemory();
        for (int what = 0; what <= 6; what++) {
            int w = what;
            Check.due("new: size(" + w + ", 0)", -1, () -> x.size(w, 0));
        }
        Check.due("new: size(7, 0)", 48, () -> x.size(7, 0));
        Check.due("new: size(8, 0)", 200, () -> x.size(8, 0));
        for (int what = 9; what <= 12; what++) {
            int w = what;
            Check.due("new: size(" + w + ", 0)", 0, () -> x.size(w, 0));
        }
        Check.due("new: trap()", 0, x::trap);
        Check.due("new: grow", -1, () -> x.grow(0, 0));
        Check.due("new: growTable", -1, () -> x.growTable(0, 0, 0));
        Check.due("new: data more", -1, () -> x.data(0, 0, true));
        Check.due("new: element more", -1, () -> x.element(0, true));
        Check.illegal(x, "new: load", () -> x.load(0, 40, 0, 0));
        Check.illegal(x, "new: get", () -> x.get(0, 0));
        Check.illegal(x, "new: drop", () -> x.drop(0, false));
        Check.illegal(x, "new: drop reference", () -> x.drop(0, true));
    }

    private static void memoriesGetNumbers() {
        PagedMemory x = new PagedMemory();
        Check.due("memory(0, 0)", 0, () -> x.memory(0, 0));
        Check.due("memory(2, 2)", 1, () -> x.memory(2, 2));
        Check.due("memory(0, 65536)", 2, () -> x.memory(0, 65536));
        Check.due("memory(46, 65536)", 3, () -> x.memory(46, 65536));
        Check.due("pages of 3", 46, () -> x.size(0, 3));
        Check.due("limit of 3", 65536, () -> x.size(1, 3));
        Check.due("pages left", 0, () -> x.size(7, 0));
        Check.due("memory(0, 1) with no pages left", 4, () -> x.memory(0, 1));
        Check.due("memory(1, 1) with no pages left", -1, () -> x.memory(1, 1));
    }

    private static void memoryRefuses() {
        PagedMemory x = new PagedMemory();
        int[][] wrong = {{-1, 5}, {MIN, 5}, {-1, -1}, {0, -1}, {2, 1}, {0, 65537}, {0, MAX}, {0, MIN},
            {49, 49}, {49, 65536}, {65536, 65536}, {MAX, MAX}, {-1, 65537}, {16777216, 65536}};
        for (int[] w : wrong) {
            Check.due("memory(" + w[0] + ", " + w[1] + ")", -1, () -> x.memory(w[0], w[1]));
        }
        Check.due("none was made", 0, () -> x.size(9, 0));
        Check.due("no page was taken", 48, () -> x.size(7, 0));
        Check.due("memory(48, 48)", 0, () -> x.memory(48, 48));
        Check.due("the last byte of the last page", 0, () -> x.load(0, 45, 48 * 256 - 1, 0));
    }

    private static void atMostSixMemories() {
        PagedMemory x = new PagedMemory();
        for (int i = 0; i < 6; i++) {
            int want = i;
            Check.due("memory number " + i, want, () -> x.memory(1, 1));
        }
        Check.due("a seventh memory", -1, () -> x.memory(0, 0));
        Check.due("memories", 6, () -> x.size(9, 0));
        Check.due("pages left", 42, () -> x.size(7, 0));
    }

    private static void growAnswersWhatItHad() {
        PagedMemory x = new PagedMemory();
        Check.due("memory(0, 48)", 0, () -> x.memory(0, 48));
        Check.due("grow by 3", 0, () -> x.grow(0, 3));
        Check.due("grow by 0", 3, () -> x.grow(0, 0));
        Check.due("grow by 45", 3, () -> x.grow(0, 45));
        Check.due("grow by 1 beyond its limit", -1, () -> x.grow(0, 1));
        Check.due("grow by 0 when full", 48, () -> x.grow(0, 0));
        Check.due("pages", 48, () -> x.size(0, 0));
    }

    private static void growRefuses() {
        PagedMemory x = new PagedMemory();
        x.memory(1, 10);
        x.memory(1, 65536);
        Check.due("no memory -1", -1, () -> x.grow(-1, 0));
        Check.due("no memory 2", -1, () -> x.grow(2, 0));
        Check.due("no memory 6", -1, () -> x.grow(6, 0));
        Check.due("no memory MIN", -1, () -> x.grow(MIN, 0));
        Check.due("no memory MAX", -1, () -> x.grow(MAX, 0));
        Check.due("beyond the limit", -1, () -> x.grow(0, 10));
        Check.due("more than are left", -1, () -> x.grow(1, 47));
        Check.due("a number without sign: -1", -1, () -> x.grow(1, -1));
        Check.due("a number without sign: MIN", -1, () -> x.grow(1, MIN));
        Check.due("MAX", -1, () -> x.grow(1, MAX));
        Check.due("a product that wraps around", -1, () -> x.grow(1, 1 << 24));
        Check.due("nothing grew: 0", 1, () -> x.size(0, 0));
        Check.due("nothing grew: 1", 1, () -> x.size(0, 1));
        Check.due("nothing was taken", 46, () -> x.size(7, 0));
        Check.due("to its limit", 1, () -> x.grow(0, 9));
        Check.due("all that are left", 1, () -> x.grow(1, 37));
        Check.due("one more", -1, () -> x.grow(1, 1));
    }

    private static void growKeepsTheOthers() {
        PagedMemory x = new PagedMemory();
        x.memory(1, 9);
        x.memory(2, 9);
        x.memory(0, 9);
        x.memory(1, 9);
        x.fill(0, 0, 1, 256);
        x.fill(1, 0, 2, 512);
        x.fill(3, 0, 4, 256);
        x.grow(0, 2);
        x.grow(2, 1);
        x.grow(1, 1);
        x.memory(1, 1);
        int[][] pages = {{0, 0, 1}, {0, 1, 0}, {0, 2, 0}, {1, 0, 2}, {1, 1, 2}, {1, 2, 0}, {2, 0, 0}, {3, 0, 4},
            {4, 0, 0}};
        for (int[] p : pages) {
            long due = p[2] * 0x0101010101010101L;
            Check.due("first bytes of page " + p[1] + " of " + p[0], due, () -> x.load(p[0], 41, p[1] * 256, 0));
            Check.due("last bytes of page " + p[1] + " of " + p[0], due, () -> x.load(p[0], 41, p[1] * 256, 248));
        }
    }

    private static void loadsOfAllOperators() {
        PagedMemory x = new PagedMemory();
        x.memory(1, 1);
        x.store(0, 55, 3, 0, 0xF1E2D3C4B5A69788L);
        x.store(0, 55, 16, 0, 0x7172737475767778L);
        long[] high = {0xB5A69788L, 0xF1E2D3C4B5A69788L, 0xB5A69788L, 0xF1E2D3C4B5A69788L,
            0xFFFFFF88L, 0x88L, 0xFFFF9788L, 0x9788L,
            0xFFFFFFFFFFFFFF88L, 0x88L, 0xFFFFFFFFFFFF9788L, 0x9788L, 0xFFFFFFFFB5A69788L, 0xB5A69788L};
        long[] low = {0x75767778L, 0x7172737475767778L, 0x75767778L, 0x7172737475767778L,
            0x78L, 0x78L, 0x7778L, 0x7778L, 0x78L, 0x78L, 0x7778L, 0x7778L, 0x75767778L, 0x75767778L};
        int[] widths = {4, 8, 4, 8, 1, 1, 2, 2, 1, 1, 2, 2, 4, 4};
        for (int i = 0; i < 14; i++) {
            int operator = 40 + i;
            int width = widths[i];
            Check.due("load " + operator + " of high bits", high[i], () -> x.load(0, operator, 1, 2));
            Check.due("load " + operator + " of low bits", low[i], () -> x.load(0, operator, 16, 0));
            Check.due("load " + operator + " at the end", 0, () -> x.load(0, operator, 256 - width, 0));
            Check.due("trap() of none", 0, x::trap);
            Check.traps(x, 4, "load " + operator + " beyond", () -> x.load(0, operator, 0, 257 - width));
        }
    }

    private static void storesOfAllOperators() {
        int[] widths = {4, 8, 4, 8, 1, 2, 1, 2, 4};
        long value = 0x8899AABBCCDDEEFFL;
        for (int i = 0; i < 9; i++) {
            PagedMemory x = new PagedMemory();
            x.memory(1, 1);
            int operator = 54 + i;
            int width = widths[i];
            x.fill(0, 0, 0x11, 256);
            Check.passes("store " + operator, () -> x.store(0, operator, 60, 4, value));
            Check.due("trap() of none", 0, x::trap);
            for (int k = -1; k <= 8; k++) {
                int at = 64 + k;
                long due = k >= 0 && k < width ? (value >>> (8 * k)) & 0xFF : 0x11;
                Check.due("byte " + k + " of store " + operator, due, () -> x.load(0, 45, at, 0));
            }
            Check.traps(x, 4, "store " + operator + " beyond", () -> x.store(0, operator, 257 - width, 0, 0));
            Check.due("nothing changed", 0x1111111111111111L, () -> x.load(0, 41, 248, 0));
            Check.passes("store " + operator + " at the end", () -> x.store(0, operator, 0, 256 - width, value));
            Check.due("the last byte", (value >>> (8 * width - 8)) & 0xFF, () -> x.load(0, 45, 255, 0));
        }
    }

    private static void loadRefuses() {
        PagedMemory x = new PagedMemory();
        x.memory(48, 48);
        x.memory(0, 48);
        for (int memory : new int[] {-1, 2, 6, MIN, MAX}) {
            Check.illegal(x, "load of memory " + memory, () -> x.load(memory, 40, 0, 0));
            Check.illegal(x, "load beyond of memory " + memory, () -> x.load(memory, 40, -1, 0));
        }
        for (int operator : new int[] {39, 54, 62, 0, -1, MIN, MAX}) {
            Check.illegal(x, "load by " + operator, () -> x.load(0, operator, 0, 0));
            Check.illegal(x, "load beyond by " + operator, () -> x.load(0, operator, -1, 0));
        }
        Check.traps(x, 4, "load of no pages", () -> x.load(1, 45, 0, 0));
        int[][] beyond = {{-1, 0}, {0, -1}, {-1, 1}, {-4, 4}, {-1, -1}, {MIN, MIN}, {MAX, MAX}, {MIN, 0}, {12288, 0},
            {0, 12288}, {12287, 1}, {MAX, 1}};
        for (int[] b : beyond) {
            Check.traps(x, 4, "load at " + b[0] + " + " + b[1], () -> x.load(0, 45, b[0], b[1]));
        }
        Check.due("load at 12000 + 287", 0, () -> x.load(0, 45, 12000, 287));
    }

    private static void storeRefuses() {
        PagedMemory x = new PagedMemory();
        x.memory(1, 48);
        x.memory(1, 48);
        for (int memory : new int[] {-1, 2, 6, MIN, MAX}) {
            Check.illegal(x, "store to memory " + memory, () -> x.store(memory, 54, 0, 0, -1));
            Check.illegal(x, "store beyond to memory " + memory, () -> x.store(memory, 54, -1, 0, -1));
        }
        for (int operator : new int[] {53, 63, 40, 0, -1, MIN, MAX}) {
            Check.illegal(x, "store by " + operator, () -> x.store(0, operator, 0, 0, -1));
            Check.illegal(x, "store beyond by " + operator, () -> x.store(0, operator, -1, 0, -1));
        }
        int[][] beyond = {{-1, 0}, {0, -1}, {-1, 1}, {-4, 4}, {-1, -1}, {MIN, MIN}, {MAX, MAX}, {256, 0}, {0, 256}};
        for (int[] b : beyond) {
            Check.traps(x, 4, "store at " + b[0] + " + " + b[1], () -> x.store(0, 58, b[0], b[1], -1));
        }
        Check.due("nothing at the start", 0, () -> x.load(0, 41, 0, 0));
        Check.due("nothing at the end", 0, () -> x.load(0, 41, 248, 0));
        Check.due("nothing in the next memory", 0, () -> x.load(1, 41, 0, 0));
    }
}
