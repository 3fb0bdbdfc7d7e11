import java.util.function.Consumer;

/** The boundary cases that the document's Terms name, sentence by sentence: the last input on either side. */
public final class TermsBoundaryTest {
    private static final int MAX = Integer.MAX_VALUE;
    private static final int MIN = Integer.MIN_VALUE;
    /** What an int looks like as 32 bits without sign beyond all ends: 2^31 - 1, 2^31, 2^32 - 1. */
    private static final int[] HUGE = {MAX, MIN, -1};

    private static final int[] LOADS = {4, 8, 4, 8, 1, 1, 2, 2, 1, 1, 2, 2, 4, 4};
    private static final int[] STORES = {4, 8, 4, 8, 1, 2, 1, 2, 4};

    public static void main(String[] args) {
        Check.each(
            TermsBoundaryTest::usedFor512Calls,
            TermsBoundaryTest::beyondAnEndOfAMemory,
            TermsBoundaryTest::beyondAnEndOfATable,
            TermsBoundaryTest::pagesHave256Bytes,
            TermsBoundaryTest::pagesForAllMemories,
            TermsBoundaryTest::atMostSixMemories,
            TermsBoundaryTest::limitOfAMemory,
            TermsBoundaryTest::newPagesAreZero,
            TermsBoundaryTest::numbersWithoutSignInMemories,
            TermsBoundaryTest::numbersWithoutSignInTables,
            TermsBoundaryTest::sumsInMemories,
            TermsBoundaryTest::sumsInTables,
            TermsBoundaryTest::sumsOfSizes,
            TermsBoundaryTest::loadsWithAndWithoutSign,
            TermsBoundaryTest::storesOfTheLowestBytes,
            TermsBoundaryTest::lowestByteFirst,
            TermsBoundaryTest::allBytesInTheMemory,
            TermsBoundaryTest::atMostSixTables,
            TermsBoundaryTest::entriesForAllTables,
            TermsBoundaryTest::typesOfTables,
            TermsBoundaryTest::limitOfATable,
            TermsBoundaryTest::references,
            TermsBoundaryTest::segmentsOfBytes,
            TermsBoundaryTest::segmentsOfReferences,
            TermsBoundaryTest::droppedHasNone,
            TermsBoundaryTest::droppedIsNotGivenBack,
            TermsBoundaryTest::bytesAsIfTakenFirst,
            TermsBoundaryTest::entriesAsIfTakenFirst,
            TermsBoundaryTest::endOfAStretchOfBytes,
            TermsBoundaryTest::endOfAStretchOfEntries,
            TermsBoundaryTest::endOfAStretchOfNone);
        Check.finish();
    }

    private static void inside(String call, Consumer<PagedMemory> body) {
        PagedMemory x = Made.all();
        Check.passes(x, call, () -> body.accept(x));
    }

    private static void trap4(String call, Consumer<PagedMemory> body) {
        Check.traps(4, call, Made::all, body);
    }

    private static void trap5(String call, Consumer<PagedMemory> body) {
        Check.traps(5, call, Made::all, body);
    }

    private static void usedFor512Calls() {
        Check.sentence("An object is used for at most 512 calls after it has been made");
        PagedMemory x = Made.pages(1, 1);
        for (int i = 0; i < 255; i++) {
            int at = i;
            Check.passes("store " + i, () -> x.store(0, 58, at, 0, at));
            Check.compare("load " + i, "throws.UnsupportedOperationException",
                Check.answer(() -> x.load(0, 45, 256 + at, 0)));
        }
        Check.due("the 512th call", 254, () -> x.load(0, 45, 254, 0));
    }

    private static void beyondAnEndOfAMemory() {
        Check.sentence("Whatever would reach beyond an end is a TRAP that changes nothing: memories");
        inside("load at 248", x -> x.load(0, 41, 248, 0));
        trap4("load at 249", x -> x.load(0, 41, 249, 0));
        inside("store at 248", x -> x.store(0, 55, 248, 0, -1));
        trap4("store at 249", x -> x.store(0, 55, 249, 0, -1));
        inside("fill 255 at 1", x -> x.fill(0, 1, 9, 255));
        trap4("fill 256 at 1", x -> x.fill(0, 1, 9, 256));
        inside("copy 255 to 1", x -> x.copy(0, 1, 0, 255));
        trap4("copy 256 to 1", x -> x.copy(0, 1, 0, 256));
        inside("copy 255 from 1", x -> x.copy(0, 0, 1, 255));
        trap4("copy 256 from 1", x -> x.copy(0, 0, 1, 256));
        inside("init 8 to 248", x -> x.init(0, 0, 248, 0, 8));
        trap4("init 8 to 249", x -> x.init(0, 0, 249, 0, 8));
        inside("init 7 from 1", x -> x.init(0, 0, 0, 1, 7));
        trap4("init 8 from 1", x -> x.init(0, 0, 0, 1, 8));
    }

    private static void beyondAnEndOfATable() {
        Check.sentence("Whatever would reach beyond an end is a TRAP that changes nothing: tables");
        inside("get at 3", x -> x.get(0, 3));
        trap5("get at 4", x -> x.get(0, 4));
        inside("set at 3", x -> x.set(0, 3, 9));
        trap5("set at 4", x -> x.set(0, 4, 9));
        inside("fillTable 3 at 1", x -> x.fillTable(0, 1, 9, 3));
        trap5("fillTable 4 at 1", x -> x.fillTable(0, 1, 9, 4));
        inside("copyTable 3 to 1", x -> x.copyTable(0, 1, 1, 0, 3));
        trap5("copyTable 3 to 2", x -> x.copyTable(0, 1, 2, 0, 3));
        inside("copyTable 2 from 1", x -> x.copyTable(0, 1, 0, 1, 2));
        trap5("copyTable 3 from 1", x -> x.copyTable(0, 1, 0, 1, 3));
        inside("initTable 2 to 2", x -> x.initTable(0, 0, 2, 0, 2));
        trap5("initTable 2 to 3", x -> x.initTable(0, 0, 3, 0, 2));
        inside("initTable 1 from 1", x -> x.initTable(0, 0, 0, 1, 1));
        trap5("initTable 2 from 1", x -> x.initTable(0, 0, 0, 1, 2));
    }

    private static void pagesHave256Bytes() {
        Check.sentence("PAGES have 256 bytes");
        for (int pages = 1; pages <= 48; pages += 47) {
            PagedMemory x = Made.pages(pages, 48);
            int end = 256 * pages;
            Check.passes(x, "fill all of " + pages, () -> x.fill(0, 0, 1, end));
            Check.traps(x, 4, "fill one more of " + pages, () -> x.fill(0, 0, 1, end + 1));
            Check.due("the last byte of " + pages, 1, () -> x.load(0, 45, end - 1, 0));
            Check.traps(x, 4, "the byte behind " + pages, () -> x.load(0, 45, end, 0));
        }
        PagedMemory y = Made.pages(0, 2);
        Check.traps(y, 4, "the first byte of no page", () -> y.load(0, 45, 0, 0));
        y.grow(0, 2);
        Check.passes(y, "the last byte of two grown pages", () -> y.store(0, 58, 511, 0, 1));
        Check.traps(y, 4, "the byte behind two grown pages", () -> y.store(0, 58, 512, 0, 1));
    }

    private static void pagesForAllMemories() {
        Check.sentence("there are 48 of them for all MEMORIES together");
        PagedMemory x = new PagedMemory();
        Check.due("memory(49, 49)", -1, () -> x.memory(49, 49));
        Check.due("memory(48, 48)", 0, () -> x.memory(48, 48));
        PagedMemory y = Made.pages(20, 48);
        Check.due("29 beside 20", -1, () -> y.memory(29, 48));
        Check.due("27 beside 20", 1, () -> y.memory(27, 48));
        Check.due("2 beside 47", -1, () -> y.memory(2, 48));
        Check.due("one grows by 2 beside 47", -1, () -> y.grow(0, 2));
        Check.due("one grows by 1 beside 47", 20, () -> y.grow(0, 1));
        Check.due("one grows by 1 beside 48", -1, () -> y.grow(1, 1));
        Check.due("1 beside 48", -1, () -> y.memory(1, 48));
        Check.due("none beside 48", 2, () -> y.memory(0, 48));
    }

    private static void atMostSixMemories() {
        Check.sentence("at most 6 memories");
        PagedMemory x = new PagedMemory();
        for (int k = 0; k < 6; k++) {
            Check.due("memory " + k, k, () -> x.memory(0, 1));
        }
        Check.due("a seventh memory", -1, () -> x.memory(0, 1));
        Check.due("the sixth grows", 0, () -> x.grow(5, 1));
    }

    private static void limitOfAMemory() {
        Check.sentence("A memory has SIZE pages and a LIMIT, at most 65536");
        PagedMemory x = new PagedMemory();
        Check.due("memory(0, 65537)", -1, () -> x.memory(0, 65537));
        Check.due("memory(0, 65536)", 0, () -> x.memory(0, 65536));
        Check.due("its size", 0, () -> x.size(0, 0));
        Check.due("its limit", 65536, () -> x.size(1, 0));
        Check.due("memory(0, 0)", 1, () -> x.memory(0, 0));
        Check.due("its limit", 0, () -> x.size(1, 1));
    }

    private static void newPagesAreZero() {
        Check.sentence("new pages are 0");
        PagedMemory x = Made.pages(1, 3);
        x.memory(1, 3);
        for (int memory = 0; memory < 2; memory++) {
            bytesAre(x, memory, 0, 256, 0);
            x.fill(memory, 0, 0xFF, 256);
        }
        // The new page of the first lies where the second one's bytes were.
        x.grow(0, 1);
        bytesAre(x, 0, 0, 256, -1);
        bytesAre(x, 0, 256, 512, 0);
        bytesAre(x, 1, 0, 256, -1);
        x.grow(1, 2);
        bytesAre(x, 1, 256, 768, 0);
        x.memory(1, 1);
        bytesAre(x, 2, 0, 256, 0);
    }

    private static void bytesAre(PagedMemory x, int memory, int from, int end, long due) {
        for (int at = from; at < end; at += 8) {
            int address = at;
            Check.due("bytes at " + at + " of memory " + memory, due, () -> x.load(memory, 41, address, 0));
        }
    }

    private static void numbersWithoutSignInMemories() {
        Check.sentence("ADDRESSES, offsets, numbers of bytes are 32 bits without sign");
        PagedMemory x = Made.all();
        for (int huge : HUGE) {
            Check.traps(x, 4, "load at " + huge, () -> x.load(0, 45, huge, 0));
            Check.traps(x, 4, "load by offset " + huge, () -> x.load(0, 45, 0, huge));
            Check.traps(x, 4, "load at 255 by offset " + huge, () -> x.load(0, 45, 255, huge));
            Check.traps(x, 4, "store at " + huge, () -> x.store(0, 58, huge, 0, 1));
            Check.traps(x, 4, "store by offset " + huge, () -> x.store(0, 58, 0, huge, 1));
            Check.traps(x, 4, "fill at " + huge, () -> x.fill(0, huge, 1, 0));
            Check.traps(x, 4, "fill of " + huge, () -> x.fill(0, 0, 1, huge));
            Check.traps(x, 4, "copy to " + huge, () -> x.copy(0, huge, 0, 0));
            Check.traps(x, 4, "copy from " + huge, () -> x.copy(0, 0, huge, 0));
            Check.traps(x, 4, "copy of " + huge, () -> x.copy(0, 0, 0, huge));
            Check.traps(x, 4, "init to " + huge, () -> x.init(0, 0, huge, 0, 0));
            Check.traps(x, 4, "init from " + huge, () -> x.init(0, 0, 0, huge, 0));
            Check.traps(x, 4, "init of " + huge, () -> x.init(0, 0, 0, 0, huge));
        }
        PagedMemory y = Made.pages(48, 48);
        Check.passes(y, "load at the highest address", () -> y.load(0, 45, 12287, 0));
        Check.passes(y, "load by the highest offset", () -> y.load(0, 45, 0, 12287));
        Check.passes(y, "fill of the highest number", () -> y.fill(0, 0, 1, 12288));
    }

    private static void numbersWithoutSignInTables() {
        Check.sentence("numbers of entries are 32 bits without sign");
        PagedMemory x = Made.all();
        for (int huge : HUGE) {
            Check.traps(x, 5, "get at " + huge, () -> x.get(0, huge));
            Check.traps(x, 5, "set at " + huge, () -> x.set(0, huge, 1));
            Check.traps(x, 5, "fillTable at " + huge, () -> x.fillTable(0, huge, 1, 0));
            Check.traps(x, 5, "fillTable of " + huge, () -> x.fillTable(0, 0, 1, huge));
            Check.traps(x, 5, "copyTable to " + huge, () -> x.copyTable(0, 1, huge, 0, 0));
            Check.traps(x, 5, "copyTable from " + huge, () -> x.copyTable(0, 1, 0, huge, 0));
            Check.traps(x, 5, "copyTable of " + huge, () -> x.copyTable(0, 1, 0, 0, huge));
            Check.traps(x, 5, "initTable to " + huge, () -> x.initTable(0, 0, huge, 0, 0));
            Check.traps(x, 5, "initTable from " + huge, () -> x.initTable(0, 0, 0, huge, 0));
            Check.traps(x, 5, "initTable of " + huge, () -> x.initTable(0, 0, 0, 0, huge));
        }
        PagedMemory y = Made.entries(200, 200);
        Check.due("get at the highest index", -1, () -> y.get(0, 199));
        Check.passes(y, "fillTable of the highest number", () -> y.fillTable(0, 0, 1, 200));
    }

    private static void sumsInMemories() {
        Check.sentence("sums of them are made without bounds: memories");
        // Pairs whose sum with 32 bits would be 0 or a little more.
        int[][] pairs = {{-1, 1}, {1, -1}, {MIN, MIN}, {-256, 256}, {256, -256}, {-1, 2}, {-4, 4}, {MAX, MIN + 1}};
        PagedMemory x = Made.all();
        for (int[] p : pairs) {
            String sum = p[0] + " + " + p[1];
            Check.traps(x, 4, "load at " + sum, () -> x.load(0, 45, p[0], p[1]));
            Check.traps(x, 4, "store at " + sum, () -> x.store(0, 58, p[0], p[1], 1));
            Check.traps(x, 4, "fill " + sum, () -> x.fill(0, p[0], 1, p[1]));
            Check.traps(x, 4, "copy to " + sum, () -> x.copy(0, p[0], 0, p[1]));
            Check.traps(x, 4, "copy from " + sum, () -> x.copy(0, 0, p[0], p[1]));
            Check.traps(x, 4, "init to " + sum, () -> x.init(0, 0, p[0], 0, p[1]));
            Check.traps(x, 4, "init from " + sum, () -> x.init(0, 0, 0, p[0], p[1]));
        }
        for (int operator = 40; operator <= 53; operator++) {
            int load = operator;
            int width = LOADS[operator - 40];
            Check.traps(x, 4, "load " + load + " up to 2^32", () -> x.load(0, load, -width, 0));
            Check.traps(x, 4, "load " + load + " up to 2^33 - 2", () -> x.load(0, load, -1, -1));
        }
        Check.due("load at 128 + 127", 0, () -> x.load(0, 45, 128, 127));
        Check.traps(x, 4, "load at 128 + 128", () -> x.load(0, 45, 128, 128));
        trap4("store where a sum wraps", y -> y.store(0, 54, -4, 4, -1));
        trap4("fill where a sum wraps", y -> y.fill(0, 1, 9, -1));
        trap4("copy where a sum wraps", y -> y.copy(0, -1, 0, 1));
        trap4("init where a sum wraps", y -> y.init(0, 0, -1, 0, 1));
    }

    private static void sumsInTables() {
        Check.sentence("sums of them are made without bounds: tables");
        int[][] pairs = {{-1, 1}, {1, -1}, {MIN, MIN}, {-4, 4}, {4, -4}, {-1, 2}, {MAX, MIN + 1}};
        PagedMemory x = Made.all();
        for (int[] p : pairs) {
            String sum = p[0] + " + " + p[1];
            Check.traps(x, 5, "fillTable " + sum, () -> x.fillTable(0, p[0], 1, p[1]));
            Check.traps(x, 5, "copyTable to " + sum, () -> x.copyTable(0, 1, p[0], 0, p[1]));
            Check.traps(x, 5, "copyTable from " + sum, () -> x.copyTable(0, 1, 0, p[0], p[1]));
            Check.traps(x, 5, "initTable to " + sum, () -> x.initTable(0, 0, p[0], 0, p[1]));
            Check.traps(x, 5, "initTable from " + sum, () -> x.initTable(0, 0, 0, p[0], p[1]));
        }
        trap5("fillTable where a sum wraps", y -> y.fillTable(0, 1, 9, -1));
        trap5("copyTable where a sum wraps", y -> y.copyTable(0, 1, -1, 0, 1));
        trap5("initTable where a sum wraps", y -> y.initTable(0, 0, -1, 0, 1));
    }

    private static void sumsOfSizes() {
        Check.sentence("sums of them are made without bounds: sizes");
        for (int n : new int[] {-1, MIN, MAX}) {
            Check.refused("grow by " + n, Made::all, x -> x.grow(0, n));
            Check.refused("grow by " + n + " to a high limit", Made::all, x -> x.grow(1, n));
            Check.refused("growTable by " + n, Made::all, x -> x.growTable(0, n, 9));
            Check.refused("growTable by " + n + " to the highest limit", Made::all, x -> x.growTable(1, n, 9));
        }
        // These would be no bytes at all, or one page's, if the product had 32 bits.
        Check.refused("grow by 2^24", Made::all, x -> x.grow(1, 1 << 24));
        Check.refused("grow by 2^24 + 1", Made::all, x -> x.grow(1, (1 << 24) + 1));
    }

    private static void loadsWithAndWithoutSign() {
        Check.sentence("A LOAD by an operator, and what it gives as 64 bits");
        // What all bytes from the lowest on are, then for 40, 41 .. 53: the highest number without the sign bit,
        // the lowest with it, the highest of all.
        long[][] due = {
            {0x7FFFFFFFL, 0x7FFFFFFFFFFFFFFFL, 0x7FFFFFFFL, 0x7FFFFFFFFFFFFFFFL, 0x7FL, 0x7FL, 0x7FFFL, 0x7FFFL,
                0x7FL, 0x7FL, 0x7FFFL, 0x7FFFL, 0x7FFFFFFFL, 0x7FFFFFFFL},
            {0x80000000L, MIN * 0x100000000L, 0x80000000L, MIN * 0x100000000L, 0xFFFFFF80L, 0x80L, 0xFFFF8000L, 0x8000L,
                -0x80L, 0x80L, -0x8000L, 0x8000L, -0x80000000L, 0x80000000L},
            {0xFFFFFFFFL, -1, 0xFFFFFFFFL, -1, 0xFFFFFFFFL, 0xFFL, 0xFFFFFFFFL, 0xFFFFL,
                -1, 0xFFL, -1, 0xFFFFL, -1, 0xFFFFFFFFL}};
        for (int operator = 40; operator <= 53; operator++) {
            int load = operator;
            int width = LOADS[operator - 40];
            long sign = 1L << (8 * width - 1);
            long[] bits = {sign - 1, sign, sign - 1 | sign};
            for (int kind = 0; kind < 3; kind++) {
                // What lies around the bytes is the other way round, so that one byte more is seen.
                long around = kind == 0 ? -1 : 0;
                PagedMemory x = Made.pages(1, 1);
                x.fill(0, 0, (int) around, 256);
                x.store(0, width == 8 ? 55 : width == 4 ? 54 : width == 2 ? 59 : 58, 16, 0, bits[kind]);
                Check.due("load " + load + " of " + bits[kind], due[kind][load - 40], () -> x.load(0, load, 16, 0));
            }
        }
    }

    private static void storesOfTheLowestBytes() {
        Check.sentence("A STORE: the lowest ones of the number given");
        for (int operator = 54; operator <= 62; operator++) {
            int store = operator;
            int width = STORES[operator - 54];
            PagedMemory x = Made.pages(1, 1);
            Check.passes(x, "store " + store + " of -1", () -> x.store(0, store, 16, 0, -1));
            Check.due("the byte before", 0, () -> x.load(0, 45, 15, 0));
            Check.due("the first byte", 0xFF, () -> x.load(0, 45, 16, 0));
            Check.due("the last byte", 0xFF, () -> x.load(0, 45, 15 + width, 0));
            Check.due("the byte behind", 0, () -> x.load(0, 45, 16 + width, 0));
            long high = width == 8 ? 0 : -1L << (8 * width);
            Check.passes(x, "store " + store + " of higher bits", () -> x.store(0, store, 16, 0, high));
            Check.due("the bytes", 0, () -> x.load(0, 41, 16, 0));
        }
    }

    private static void lowestByteFirst() {
        Check.sentence("The byte at the lowest address is the lowest one");
        PagedMemory x = Made.pages(1, 1);
        x.store(0, 55, 248, 0, 0x8877665544332211L);
        for (int i = 0; i < 8; i++) {
            int at = 248 + i;
            Check.due("the byte at " + at, 0x11 * (i + 1), () -> x.load(0, 45, at, 0));
            x.store(0, 58, i, 0, 0x11 * (i + 1));
        }
        Check.due("eight bytes", 0x8877665544332211L, () -> x.load(0, 41, 0, 0));
        Check.due("four bytes", 0x88776655L, () -> x.load(0, 53, 4, 0));
        Check.due("two bytes", 0x8877L, () -> x.load(0, 51, 6, 0));
    }

    private static void allBytesInTheMemory() {
        Check.sentence("The first byte is at address + offset; all are to be in the memory, otherwise TRAP 4");
        for (int operator = 40; operator <= 62; operator++) {
            int op = operator;
            int width = operator < 54 ? LOADS[operator - 40] : STORES[operator - 54];
            int last = 256 - width;
            for (int offset : new int[] {0, 1, last, last / 2}) {
                String name = (op < 54 ? "load " : "store ") + op + " by offset " + offset;
                PagedMemory x = Made.all();
                Check.passes(x, name + " to the end", () -> access(x, op, last - offset, offset));
                Check.traps(x, 4, name + " one beyond", () -> access(x, op, last - offset + 1, offset));
                Check.traps(x, 4, name + " at the end", () -> access(x, op, 256 - offset, offset));
            }
        }
    }

    private static void access(PagedMemory x, int operator, int address, int offset) {
        if (operator < 54) {
            x.load(0, operator, address, offset);
        } else {
            x.store(0, operator, address, offset, -1);
        }
    }

    private static void atMostSixTables() {
        Check.sentence("TABLES: at most 6");
        PagedMemory x = new PagedMemory();
        for (int k = 0; k < 6; k++) {
            Check.due("table " + k, k, () -> x.table(112, 0, 1));
        }
        Check.due("a seventh table", -1, () -> x.table(112, 0, 1));
        Check.due("the sixth grows", 0, () -> x.growTable(5, 1, 0));
    }

    private static void entriesForAllTables() {
        Check.sentence("with 200 ENTRIES for all together");
        PagedMemory x = new PagedMemory();
        Check.due("table(112, 201, 201)", -1, () -> x.table(112, 201, 201));
        Check.due("table(112, 200, 200)", 0, () -> x.table(112, 200, 200));
        PagedMemory y = Made.entries(90, 200);
        Check.due("111 beside 90", -1, () -> y.table(111, 111, 200));
        Check.due("109 beside 90", 1, () -> y.table(111, 109, 200));
        Check.due("2 beside 199", -1, () -> y.table(111, 2, 200));
        Check.due("one grows by 2 beside 199", -1, () -> y.growTable(0, 2, 0));
        Check.due("one grows by 1 beside 199", 90, () -> y.growTable(0, 1, 0));
        Check.due("one grows by 1 beside 200", -1, () -> y.growTable(1, 1, 0));
        Check.due("1 beside 200", -1, () -> y.table(111, 1, 200));
        Check.due("none beside 200", 2, () -> y.table(111, 0, 200));
    }

    private static void typesOfTables() {
        Check.sentence("each has a TYPE (112 or 111)");
        PagedMemory x = new PagedMemory();
        Check.due("type 110", -1, () -> x.table(110, 1, 1));
        Check.due("type 111", 0, () -> x.table(111, 1, 1));
        Check.due("type 112", 1, () -> x.table(112, 1, 1));
        Check.due("type 113", -1, () -> x.table(113, 1, 1));
        Check.due("type of 0", 111, () -> x.size(4, 0));
        Check.due("type of 1", 112, () -> x.size(4, 1));
    }

    private static void limitOfATable() {
        Check.sentence("SIZE entries and a LIMIT (32 bits)");
        int[] limits = {0, 1, MAX, MIN, -1};
        PagedMemory x = new PagedMemory();
        for (int k = 0; k < limits.length; k++) {
            int number = k;
            Check.due("limit " + limits[k], k, () -> x.table(112, 0, limits[number]));
            Check.due("its size", 0, () -> x.size(2, number));
            Check.due("the limit told", limits[k], () -> x.size(3, number));
            Check.due("it grows by 1", limits[k] == 0 ? -1 : 0, () -> x.growTable(number, 1, 0));
        }
    }

    private static void references() {
        Check.sentence("An entry is a REFERENCE: a number from 0 on, or -1 for none");
        PagedMemory x = Made.entries(1, 200);
        for (int reference : new int[] {-1, 0, 1, MAX}) {
            Check.passes(x, "set " + reference, () -> x.set(0, 0, reference));
            Check.due("get", reference, () -> x.get(0, 0));
            Check.passes(x, "fillTable with " + reference, () -> x.fillTable(0, 0, reference, 1));
            Check.due("growTable with " + reference, x.size(2, 0), () -> x.growTable(0, 1, reference));
            Check.due("the new entry", reference, () -> x.get(0, x.size(2, 0) - 1));
            Check.due("element " + reference, x.size(12, 0), () -> x.element(reference, false));
        }
        for (int none : new int[] {-2, MIN}) {
            Check.illegal("set " + none, Made::all, y -> y.set(0, 0, none));
            Check.illegal("fillTable with " + none, Made::all, y -> y.fillTable(0, 0, none, 1));
            Check.refused("growTable with " + none, Made::all, y -> y.growTable(0, 1, none));
            Check.refused("element " + none, Made::all, y -> y.element(none, false));
            Check.refused("element " + none + " more", Made::all, y -> y.element(none, true));
        }
    }

    private static void segmentsOfBytes() {
        Check.sentence("SEGMENTS hold bytes (at most 24 segments, 600 bytes together)");
        PagedMemory x = Made.segmentsOfBytes(23);
        Check.due("a 24th", 23, () -> x.data(1, 1, false));
        Check.due("a 25th", -1, () -> x.data(1, 1, false));
        PagedMemory y = Made.bytes(592);
        Check.due("a segment of 7", 1, () -> y.data(0, 7, false));
        Check.due("2 beside 599", -1, () -> y.data(0, 2, false));
        Check.due("1 beside 599", 2, () -> y.data(0, 1, false));
        Check.due("1 beside 600", -1, () -> y.data(0, 1, false));
    }

    private static void segmentsOfReferences() {
        Check.sentence("or references (likewise: 24 segments, 200 references together)");
        PagedMemory x = Made.segmentsOfReferences(23);
        Check.due("a 24th", 23, () -> x.element(1, false));
        Check.due("a 25th", -1, () -> x.element(1, false));
        PagedMemory y = Made.references(198);
        Check.due("the 199th", 1, () -> y.element(0, false));
        Check.due("the 200th", 2, () -> y.element(0, false));
        Check.due("the 201st", -1, () -> y.element(0, false));
    }

    private static void droppedHasNone() {
        Check.sentence("one that is DROPPED has none from then on");
        PagedMemory x = Made.all();
        x.drop(0, false);
        x.drop(0, true);
        Check.due("its bytes", 0, () -> x.size(5, 0));
        Check.due("its references", 0, () -> x.size(6, 0));
        Check.passes(x, "init of 0", () -> x.init(0, 0, 0, 0, 0));
        Check.traps(x, 4, "init of 1", () -> x.init(0, 0, 0, 0, 1));
        Check.traps(x, 4, "init of 0 from 1", () -> x.init(0, 0, 0, 1, 0));
        Check.passes(x, "initTable of 0", () -> x.initTable(0, 0, 0, 0, 0));
        Check.traps(x, 5, "initTable of 1", () -> x.initTable(0, 0, 0, 0, 1));
        Check.traps(x, 5, "initTable of 0 from 1", () -> x.initTable(0, 0, 0, 1, 0));
        Check.due("the other's bytes", 3, () -> x.size(5, 1));
        Check.due("the other's references", 1, () -> x.size(6, 1));
        Check.passes(x, "init of the other's last", () -> x.init(0, 1, 0, 2, 1));
        Check.due("it", 0x23, () -> x.load(0, 45, 0, 0));
        Check.passes(x, "initTable of the other's last", () -> x.initTable(0, 1, 0, 0, 1));
        Check.due("it", 911, () -> x.get(0, 0));
    }

    private static void droppedIsNotGivenBack() {
        Check.sentence("(what it had is not given back)");
        PagedMemory bytes = Made.bytes(600);
        bytes.drop(0, false);
        Check.due("a byte after 600 were dropped", -1, () -> bytes.data(0, 1, false));
        Check.due("no byte after 600 were dropped", 1, () -> bytes.data(0, 0, false));
        PagedMemory most = Made.bytes(599);
        most.drop(0, false);
        Check.due("2 bytes after 599 were dropped", -1, () -> most.data(0, 2, false));
        Check.due("1 byte after 599 were dropped", 1, () -> most.data(0, 1, false));
        PagedMemory references = Made.references(199);
        references.drop(0, true);
        Check.due("a reference after 199 were dropped", 1, () -> references.element(0, false));
        references.drop(1, true);
        Check.due("a reference after 200 were dropped", -1, () -> references.element(0, false));
        PagedMemory full = Made.segmentsOfBytes(24);
        full.drop(23, false);
        Check.due("a segment of bytes after 24, one dropped", -1, () -> full.data(0, 1, false));
        Check.due("they stay 24", 24, () -> full.size(11, 0));
        PagedMemory fullOfReferences = Made.segmentsOfReferences(24);
        fullOfReferences.drop(23, true);
        Check.due("a segment of references after 24, one dropped", -1, () -> fullOfReferences.element(0, false));
        Check.due("they stay 24", 24, () -> fullOfReferences.size(12, 0));
    }

    private static void bytesAsIfTakenFirst() {
        Check.sentence("A stretch of n is moved as if all of it were taken first: bytes");
        // to, from, n: apart by one, by the whole length but one, by the whole length, not at all.
        int[][] moves = {{1, 0, 255}, {0, 1, 255}, {7, 0, 8}, {0, 7, 8}, {8, 0, 8}, {0, 8, 8}, {5, 5, 8}, {255, 0, 1}};
        for (int[] m : moves) {
            PagedMemory x = Made.pages(1, 1);
            for (int at = 0; at < 256; at++) {
                x.store(0, 58, at, 0, at);
            }
            String name = "copy " + m[2] + " to " + m[0] + " from " + m[1];
            Check.passes(x, name, () -> x.copy(0, m[0], m[1], m[2]));
            for (int k = 0; k < m[2]; k += m[2] > 100 ? 2 : 1) {
                int at = m[0] + k;
                Check.due(name + ": byte " + at, m[1] + k, () -> x.load(0, 45, at, 0));
            }
            int behind = m[0] + m[2];
            Check.due(name + ": the last byte", m[1] + m[2] - 1, () -> x.load(0, 45, behind - 1, 0));
            if (behind < 256) {
                Check.due(name + ": the byte behind", behind, () -> x.load(0, 45, behind, 0));
            }
            if (m[0] > 0) {
                Check.due(name + ": the byte before", m[0] - 1, () -> x.load(0, 45, m[0] - 1, 0));
            }
        }
    }

    private static void entriesAsIfTakenFirst() {
        Check.sentence("A stretch of n is moved as if all of it were taken first: entries");
        int[][] moves = {{1, 0, 19}, {0, 1, 19}, {7, 0, 8}, {0, 7, 8}, {8, 0, 8}, {0, 8, 8}, {5, 5, 8}, {19, 0, 1}};
        for (int[] m : moves) {
            PagedMemory x = Made.entries(20, 20);
            for (int index = 0; index < 20; index++) {
                x.set(0, index, index);
            }
            String name = "copyTable " + m[2] + " to " + m[0] + " from " + m[1];
            Check.passes(x, name, () -> x.copyTable(0, 0, m[0], m[1], m[2]));
            for (int i = 0; i < 20; i++) {
                int index = i;
                boolean moved = i >= m[0] && i < m[0] + m[2];
                Check.due(name + ": entry " + i, moved ? i - m[0] + m[1] : i, () -> x.get(0, index));
            }
        }
    }

    private static void endOfAStretchOfBytes() {
        Check.sentence("It TRAPS (4 for memories and their segments) when its end is beyond, also when n is 0");
        for (int n = 0; n <= 2; n++) {
            int some = n;
            int last = 256 - n;
            inside("fill " + n + " to the end", x -> x.fill(0, last, 9, some));
            trap4("fill " + n + " one beyond", x -> x.fill(0, last + 1, 9, some));
            inside("copy " + n + " to the end", x -> x.copy(0, last, 0, some));
            trap4("copy " + n + " to one beyond", x -> x.copy(0, last + 1, 0, some));
            inside("copy " + n + " from the end", x -> x.copy(0, 0, last, some));
            trap4("copy " + n + " from one beyond", x -> x.copy(0, 0, last + 1, some));
            inside("init " + n + " to the end", x -> x.init(0, 0, last, 0, some));
            trap4("init " + n + " to one beyond", x -> x.init(0, 0, last + 1, 0, some));
            inside("init " + n + " from the end", x -> x.init(0, 0, 0, 8 - some, some));
            trap4("init " + n + " from one beyond", x -> x.init(0, 0, 0, 9 - some, some));
        }
    }

    private static void endOfAStretchOfEntries() {
        Check.sentence("It TRAPS (5 for tables and theirs) when its end is beyond, also when n is 0");
        for (int n = 0; n <= 2; n++) {
            int some = n;
            int last = 4 - n;
            inside("fillTable " + n + " to the end", x -> x.fillTable(0, last, 9, some));
            trap5("fillTable " + n + " one beyond", x -> x.fillTable(0, last + 1, 9, some));
            inside("copyTable " + n + " to the end", x -> x.copyTable(0, 1, last, 0, some));
            trap5("copyTable " + n + " to one beyond", x -> x.copyTable(0, 1, last + 1, 0, some));
            inside("copyTable " + n + " from the end", x -> x.copyTable(0, 1, 0, 3 - some, some));
            trap5("copyTable " + n + " from one beyond", x -> x.copyTable(0, 1, 0, 4 - some, some));
            inside("initTable " + n + " to the end", x -> x.initTable(0, 0, last, 0, some));
            trap5("initTable " + n + " to one beyond", x -> x.initTable(0, 0, last + 1, 0, some));
            inside("initTable " + n + " from the end", x -> x.initTable(0, 0, 0, 2 - some, some));
            trap5("initTable " + n + " from one beyond", x -> x.initTable(0, 0, 0, 3 - some, some));
        }
    }

    private static void endOfAStretchOfNone() {
        Check.sentence("It TRAPS when its end is beyond, also when n is 0: where there is nothing at all");
        PagedMemory x = Made.pages(0, 1);
        x.table(112, 0, 1);
        x.data(0, 0, false);
        x.element(1, false);
        x.drop(0, true);
        Check.passes(x, "fill at 0", () -> x.fill(0, 0, 9, 0));
        Check.traps(x, 4, "fill at 1", () -> x.fill(0, 1, 9, 0));
        Check.passes(x, "copy at 0", () -> x.copy(0, 0, 0, 0));
        Check.traps(x, 4, "copy to 1", () -> x.copy(0, 1, 0, 0));
        Check.traps(x, 4, "copy from 1", () -> x.copy(0, 0, 1, 0));
        Check.passes(x, "init at 0", () -> x.init(0, 0, 0, 0, 0));
        Check.traps(x, 4, "init to 1", () -> x.init(0, 0, 1, 0, 0));
        Check.traps(x, 4, "init from 1", () -> x.init(0, 0, 0, 1, 0));
        Check.passes(x, "fillTable at 0", () -> x.fillTable(0, 0, 9, 0));
        Check.traps(x, 5, "fillTable at 1", () -> x.fillTable(0, 1, 9, 0));
        Check.passes(x, "copyTable at 0", () -> x.copyTable(0, 0, 0, 0, 0));
        Check.traps(x, 5, "copyTable to 1", () -> x.copyTable(0, 0, 1, 0, 0));
        Check.traps(x, 5, "copyTable from 1", () -> x.copyTable(0, 0, 0, 1, 0));
        Check.passes(x, "initTable at 0", () -> x.initTable(0, 0, 0, 0, 0));
        Check.traps(x, 5, "initTable to 1", () -> x.initTable(0, 0, 1, 0, 0));
        Check.traps(x, 5, "initTable from 1", () -> x.initTable(0, 0, 0, 1, 0));
    }
}
