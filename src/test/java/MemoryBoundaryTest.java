import java.util.function.Consumer;

/** The boundary cases that promises 1 to 8 name, sentence by sentence: the last input on either side. */
public final class MemoryBoundaryTest {
    private static final int MAX = Integer.MAX_VALUE;
    private static final int MIN = Integer.MIN_VALUE;
    /** Made.all() has two memories and two segments of each kind: 1 is the last that there is. */
    private static final int[] NO_SUCH = {-1, 2, 6, 24, MIN, MAX};

    public static void main(String[] args) {
        Check.each(
            MemoryBoundaryTest::nothingInANewObject,
            MemoryBoundaryTest::numbersOfMemories,
            MemoryBoundaryTest::memoryWhenThereAreSix,
            MemoryBoundaryTest::memoryOfPagesBelowZero,
            MemoryBoundaryTest::memoryOfPagesAboveLimit,
            MemoryBoundaryTest::memoryOfALimitTooHigh,
            MemoryBoundaryTest::memoryOfPagesNotLeft,
            MemoryBoundaryTest::growTellsWhatItHad,
            MemoryBoundaryTest::growWithoutSign,
            MemoryBoundaryTest::growOfNoMemory,
            MemoryBoundaryTest::growAboveItsLimit,
            MemoryBoundaryTest::growByPagesNotLeft,
            MemoryBoundaryTest::loadOfNoMemory,
            MemoryBoundaryTest::loadByNoOperator,
            MemoryBoundaryTest::storeOfNoMemory,
            MemoryBoundaryTest::storeByNoOperator,
            MemoryBoundaryTest::fillWithTheLowestByte,
            MemoryBoundaryTest::fillOfNoMemory,
            MemoryBoundaryTest::copyWithinAMemory,
            MemoryBoundaryTest::copyOfNoMemory,
            MemoryBoundaryTest::initFromAPlaceOfASegment,
            MemoryBoundaryTest::initOfNoMemory,
            MemoryBoundaryTest::initOfNoSegment);
        Check.finish();
    }

    private static void illegal(String call, Consumer<PagedMemory> body) {
        Check.illegal(call, Made::all, body);
    }

    private static void nothingInANewObject() {
        Check.sentence("Promise 1: No memories, tables, segments");
        PagedMemory x = new PagedMemory();
        for (int what = 9; what <= 12; what++) {
            int count = what;
            Check.due("size(" + what + ", 0)", 0, () -> x.size(count, 0));
        }
        for (int what = 0; what <= 6; what++) {
            int first = what;
            Check.due("size(" + what + ", 0)", -1, () -> x.size(first, 0));
        }
        Check.due("pages left", 48, () -> x.size(7, 0));
        Check.due("entries left", 200, () -> x.size(8, 0));
        Check.due("grow", -1, () -> x.grow(0, 0));
        Check.due("growTable", -1, () -> x.growTable(0, 0, 0));
        Check.illegal(x, "fill", () -> x.fill(0, 0, 0, 0));
        Check.illegal(x, "fillTable", () -> x.fillTable(0, 0, 0, 0));
        Check.illegal(x, "drop of bytes", () -> x.drop(0, false));
        Check.illegal(x, "drop of references", () -> x.drop(0, true));
    }

    private static void numbersOfMemories() {
        Check.sentence("Promise 2: A new memory with so many pages: its number (0, 1, ..)");
        PagedMemory x = new PagedMemory();
        for (int k = 0; k < 6; k++) {
            int pages = k;
            Check.due("memory " + k, k, () -> x.memory(pages, 10 + pages));
            Check.due("its pages", pages, () -> x.size(0, pages));
            Check.due("its limit", 10 + pages, () -> x.size(1, pages));
        }
        Check.due("a number is not used up by a refused call", 0, () -> {
            PagedMemory y = new PagedMemory();
            y.memory(-1, 0);
            return y.memory(0, 0);
        });
    }

    private static PagedMemory memories(int count) {
        PagedMemory x = new PagedMemory();
        for (int k = 0; k < count; k++) {
            x.memory(0, 1);
        }
        return x;
    }

    private static void memoryWhenThereAreSix() {
        Check.sentence("Promise 2: -1 when there are 6");
        Check.due("when there are 5", 5, () -> memories(5).memory(0, 0));
        Check.refused("when there are 6", () -> memories(6), x -> x.memory(0, 0));
    }

    private static void memoryOfPagesBelowZero() {
        Check.sentence("Promise 2: -1 when pages is below 0");
        Check.due("memory(0, 1)", 0, () -> new PagedMemory().memory(0, 1));
        for (int pages : new int[] {-1, -256, MIN}) {
            Check.refused("memory(" + pages + ", 1)", PagedMemory::new, x -> x.memory(pages, 1));
            Check.refused("memory of pages and limit " + pages, PagedMemory::new, x -> x.memory(pages, pages));
        }
    }

    private static void memoryOfPagesAboveLimit() {
        Check.sentence("Promise 2: -1 when pages is above limit");
        for (int limit : new int[] {0, 1, 47}) {
            Check.due("pages are limit " + limit, 0, () -> new PagedMemory().memory(limit, limit));
            Check.refused("one above limit " + limit, PagedMemory::new, x -> x.memory(limit + 1, limit));
        }
        Check.refused("memory(0, -1)", PagedMemory::new, x -> x.memory(0, -1));
        Check.refused("memory(0, MIN)", PagedMemory::new, x -> x.memory(0, MIN));
    }

    private static void memoryOfALimitTooHigh() {
        Check.sentence("Promise 2: -1 when limit is above 65536");
        Check.due("memory(1, 65536)", 0, () -> new PagedMemory().memory(1, 65536));
        Check.refused("memory(1, 65537)", PagedMemory::new, x -> x.memory(1, 65537));
        Check.refused("memory(1, MAX)", PagedMemory::new, x -> x.memory(1, MAX));
    }

    private static void memoryOfPagesNotLeft() {
        Check.sentence("Promise 2: -1 when there are not so many pages left");
        Check.due("48 of 48", 0, () -> new PagedMemory().memory(48, 65536));
        Check.refused("49 of 48", PagedMemory::new, x -> x.memory(49, 65536));
        Check.refused("65536 of 48", PagedMemory::new, x -> x.memory(65536, 65536));
        Check.due("47 of 47", 1, () -> Made.pages(1, 1).memory(47, 65536));
        Check.refused("48 of 47", () -> Made.pages(1, 1), x -> x.memory(48, 65536));
        Check.due("0 of 0", 1, () -> Made.pages(48, 48).memory(0, 1));
        Check.due("1 of 0", -1, () -> Made.pages(48, 48).memory(1, 1));
    }

    private static void growTellsWhatItHad() {
        Check.sentence("Promise 3: A memory grows by n pages: how many it had");
        PagedMemory x = Made.pages(0, 48);
        x.memory(2, 48);
        Check.due("0 by 0", 0, () -> x.grow(0, 0));
        Check.due("0 by 1", 0, () -> x.grow(0, 1));
        Check.due("0 by 2", 1, () -> x.grow(0, 2));
        Check.due("0 by 0", 3, () -> x.grow(0, 0));
        Check.due("its pages", 3, () -> x.size(0, 0));
        Check.due("the other's pages", 2, () -> x.size(0, 1));
        Check.due("pages left", 43, () -> x.size(7, 0));
        Check.passes(x, "store at its new end", () -> x.store(0, 58, 767, 0, 1));
        Check.traps(x, 4, "store behind its new end", () -> x.store(0, 58, 768, 0, 1));
        Check.due("the other's first byte", 0, () -> x.load(1, 45, 0, 0));
    }

    private static void growWithoutSign() {
        Check.sentence("Promise 3: n pages (32 bits without sign)");
        for (int n : new int[] {-1, -2, MIN, MIN + 1, MAX}) {
            Check.refused("grow by " + n, Made::all, x -> x.grow(0, n));
            Check.refused("grow by " + n + " to 65536", Made::all, x -> x.grow(1, n));
        }
    }

    private static void growOfNoMemory() {
        Check.sentence("Promise 3: -1, doing nothing, when there is no such memory");
        Check.due("grow of memory 0", 1, () -> Made.all().grow(0, 0));
        Check.due("grow of memory 1", 1, () -> Made.all().grow(1, 0));
        for (int none : NO_SUCH) {
            Check.refused("grow of memory " + none, Made::all, x -> x.grow(none, 1));
            Check.refused("grow of memory " + none + " by 0", Made::all, x -> x.grow(none, 0));
        }
        Check.due("grow of the sixth", 1, () -> Made.full().grow(5, 1));
        Check.due("grow of a seventh", -1, () -> Made.full().grow(6, 1));
    }

    private static void growAboveItsLimit() {
        Check.sentence("Promise 3: -1, doing nothing, when it would have more than its limit");
        Check.due("to the limit of 3", 1, () -> Made.all().grow(0, 2));
        Check.refused("above the limit of 3", Made::all, x -> x.grow(0, 3));
        Check.due("by 0 at its limit", 2, () -> Made.pages(2, 2).grow(0, 0));
        Check.refused("by 1 at its limit", () -> Made.pages(2, 2), x -> x.grow(0, 1));
        Check.due("by 0 at the limit of 0", 0, () -> Made.pages(0, 0).grow(0, 0));
        Check.refused("by 1 at the limit of 0", () -> Made.pages(0, 0), x -> x.grow(0, 1));
    }

    private static void growByPagesNotLeft() {
        Check.sentence("Promise 3: -1, doing nothing, when there are not so many left");
        Check.due("by all 46 that are left", 1, () -> Made.all().grow(1, 46));
        Check.refused("by 47 of 46", Made::all, x -> x.grow(1, 47));
        Check.refused("by 65535 of 46", Made::all, x -> x.grow(1, 65535));
        Check.due("by 0 of 0", 48, () -> Made.pages(48, 65536).grow(0, 0));
        Check.due("by 1 of 0", -1, () -> Made.pages(48, 65536).grow(0, 1));
    }

    private static void loadOfNoMemory() {
        Check.sentence("Promise 4: IllegalArgumentException: there is no such memory");
        Check.due("load of memory 0", 1, () -> Made.all().load(0, 45, 0, 0));
        Check.due("load of memory 1", 0x78, () -> Made.all().load(1, 45, 0, 0));
        for (int none : NO_SUCH) {
            illegal("load of memory " + none, x -> x.load(none, 45, 0, 0));
        }
        Check.lastOfAll(5, "load of memory ", (x, k) -> x.load(k, 45, 255, 0));
    }

    private static void loadByNoOperator() {
        Check.sentence("Promise 4: IllegalArgumentException: there is no such operator");
        Check.due("load by 40", 0x01010101L, () -> Made.all().load(0, 40, 0, 0));
        Check.due("load by 53", 0x01010101L, () -> Made.all().load(0, 53, 0, 0));
        for (int none : new int[] {39, 54, 62, 0, -1, MIN, MIN + 39, MAX}) {
            illegal("load by " + none, x -> x.load(0, none, 0, 0));
        }
    }

    private static void storeOfNoMemory() {
        Check.sentence("Promise 5: IllegalArgumentException: there is no such memory");
        PagedMemory y = Made.all();
        Check.passes(y, "store to memory 0", () -> y.store(0, 58, 0, 0, 5));
        Check.passes(y, "store to memory 1", () -> y.store(1, 58, 0, 0, 6));
        Check.due("memory 0", 5, () -> y.load(0, 45, 0, 0));
        Check.due("memory 1", 6, () -> y.load(1, 45, 0, 0));
        for (int none : NO_SUCH) {
            illegal("store to memory " + none, x -> x.store(none, 58, 0, 0, 5));
        }
        Check.lastOfAll(5, "store to memory ", (x, k) -> x.store(k, 58, 255, 0, 5));
    }

    private static void storeByNoOperator() {
        Check.sentence("Promise 5: IllegalArgumentException: there is no such operator");
        PagedMemory y = Made.all();
        Check.passes(y, "store by 54", () -> y.store(0, 54, 0, 0, 5));
        Check.due("what it stored", 5, () -> y.load(0, 40, 0, 0));
        Check.passes(y, "store by 62", () -> y.store(0, 62, 0, 0, 6));
        Check.due("what it stored", 6, () -> y.load(0, 40, 0, 0));
        for (int none : new int[] {53, 63, 40, 0, -1, MIN, MIN + 53, MAX}) {
            illegal("store by " + none, x -> x.store(0, none, 0, 0, 5));
        }
    }

    private static void fillWithTheLowestByte() {
        Check.sentence("Promise 6: n bytes at an address of a memory become the lowest byte of a number");
        int[][] values = {{0, 0}, {127, 127}, {128, 128}, {255, 255}, {256, 0}, {257, 1}, {-1, 255}, {-128, 128},
            {-129, 127}, {-256, 0}, {MAX, 255}, {MIN, 0}};
        for (int[] v : values) {
            PagedMemory x = Made.pages(1, 1);
            x.fill(0, 0, 0x55, 256);
            Check.passes(x, "fill with " + v[0], () -> x.fill(0, 100, v[0], 2));
            Check.due("the byte before", 0x55, () -> x.load(0, 45, 99, 0));
            Check.due("the first", v[1], () -> x.load(0, 45, 100, 0));
            Check.due("the last", v[1], () -> x.load(0, 45, 101, 0));
            Check.due("the byte behind", 0x55, () -> x.load(0, 45, 102, 0));
            Check.passes(x, "fill of 0 bytes", () -> x.fill(0, 99, 9, 0));
            Check.due("no byte became another", 0x55, () -> x.load(0, 45, 99, 0));
        }
    }

    private static void fillOfNoMemory() {
        Check.sentence("Promise 6: IllegalArgumentException: there is no such memory");
        PagedMemory y = Made.all();
        Check.passes(y, "fill in memory 1", () -> y.fill(1, 0, 9, 1));
        Check.due("its byte", 9, () -> y.load(1, 45, 0, 0));
        for (int none : NO_SUCH) {
            illegal("fill in memory " + none, x -> x.fill(none, 0, 9, 1));
            illegal("fill of 0 bytes in memory " + none, x -> x.fill(none, 0, 9, 0));
        }
        Check.lastOfAll(5, "fill in memory ", (x, k) -> x.fill(k, 0, 9, 256));
    }

    private static void copyWithinAMemory() {
        Check.sentence("Promise 7: n bytes are moved within a memory");
        PagedMemory x = Made.all();
        Check.passes(x, "copy 8 to the end of memory 1", () -> x.copy(1, 248, 0, 8));
        Check.due("what came", 0x7172737475767778L, () -> x.load(1, 41, 248, 0));
        Check.due("the bytes before it", 0, () -> x.load(1, 41, 240, 0));
        Check.due("where it came from", 0x7172737475767778L, () -> x.load(1, 41, 0, 0));
        Check.due("the other memory", 0x0101010101010101L, () -> x.load(0, 41, 0, 0));
        Check.passes(x, "copy 1 from the end of memory 1", () -> x.copy(1, 0, 255, 1));
        Check.due("what came", 0x7172737475767771L, () -> x.load(1, 41, 0, 0));
        Check.passes(x, "copy 0", () -> x.copy(1, 1, 0, 0));
        Check.due("nothing came", 0x7172737475767771L, () -> x.load(1, 41, 0, 0));
        Check.passes(x, "copy all to itself", () -> x.copy(1, 0, 0, 256));
        Check.due("it stays", 0x7172737475767771L, () -> x.load(1, 41, 0, 0));
    }

    private static void copyOfNoMemory() {
        Check.sentence("Promise 7: IllegalArgumentException: there is no such memory");
        Check.passes("copy in memory 1", () -> Made.all().copy(1, 0, 1, 1));
        for (int none : NO_SUCH) {
            illegal("copy in memory " + none, x -> x.copy(none, 0, 1, 1));
            illegal("copy of 0 bytes in memory " + none, x -> x.copy(none, 0, 0, 0));
        }
        Check.lastOfAll(5, "copy in memory ", (x, k) -> x.copy(k, 0, 0, 256));
    }

    private static void initFromAPlaceOfASegment() {
        Check.sentence("Promise 8: n bytes from a place of a segment come to an address of a memory");
        PagedMemory x = Made.all();
        Check.passes(x, "all of segment 0 to the end of memory 0", () -> x.init(0, 0, 248, 0, 8));
        Check.due("what came", 0x1817161514131211L, () -> x.load(0, 41, 248, 0));
        Check.due("the memory behind", 0x7172737475767778L, () -> x.load(1, 41, 0, 0));
        Check.passes(x, "the last byte of segment 1 to the start of memory 1", () -> x.init(1, 1, 0, 2, 1));
        Check.due("what came", 0x7172737475767723L, () -> x.load(1, 41, 0, 0));
        Check.passes(x, "0 bytes", () -> x.init(1, 0, 0, 0, 0));
        Check.due("nothing came", 0x7172737475767723L, () -> x.load(1, 41, 0, 0));
        Check.due("the segment keeps its bytes", 8, () -> x.size(5, 0));
    }

    private static void initOfNoMemory() {
        Check.sentence("Promise 8: IllegalArgumentException: there is no such memory");
        Check.passes("init in memory 1", () -> Made.all().init(1, 0, 0, 0, 1));
        for (int none : NO_SUCH) {
            illegal("init in memory " + none, x -> x.init(none, 0, 0, 0, 1));
            illegal("init of 0 bytes in memory " + none, x -> x.init(none, 0, 0, 0, 0));
        }
        Check.lastOfAll(5, "init in memory ", (x, k) -> x.init(k, 0, 255, 0, 1));
    }

    private static void initOfNoSegment() {
        Check.sentence("Promise 8: IllegalArgumentException: there is no such segment");
        Check.passes("init from segment 1", () -> Made.all().init(0, 1, 0, 0, 1));
        for (int none : NO_SUCH) {
            illegal("init from segment " + none, x -> x.init(0, none, 0, 0, 1));
            illegal("init of 0 bytes from segment " + none, x -> x.init(0, none, 0, 0, 0));
        }
        PagedMemory y = Made.pages(1, 1);
        y.element(1, false);
        Check.illegal(y, "init from a segment of references", () -> y.init(0, 0, 0, 0, 0));
        Check.lastOfAll(23, "init from segment ", (x, k) -> x.init(0, k, 255, 0, 1));
    }
}
