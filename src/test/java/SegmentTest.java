/** Promises 9, 10 and 18: data, drop, element. */
public final class SegmentTest {
    private static final int MAX = Integer.MAX_VALUE;
    private static final int MIN = Integer.MIN_VALUE;

    public static void main(String[] args) {
        dataTakesTheLowestBytes();
        dataRefuses();
        atMost24SegmentsOfBytes();
        atMost600Bytes();
        elementTakesReferences();
        elementRefuses();
        atMost24SegmentsOfReferences();
        atMost200References();
        dropKeepsTheNumber();
        dropRefuses();
        Check.finish();
    }

    private static void dataTakesTheLowestBytes() {
        PagedMemory x = new PagedMemory();
        x.memory(1, 1);
        for (int n = 0; n <= 8; n++) {
            int bytes = n;
            long due = n == 8 ? 0x8877665544332211L : 0x8877665544332211L & ((1L << (8 * n)) - 1);
            Check.due("data of " + n, n, () -> x.data(0x8877665544332211L, bytes, false));
            Check.due("its bytes", n, () -> x.size(5, bytes));
            x.fill(0, 0, 0, 8);
            Check.passes("init from it", () -> x.init(0, bytes, 0, 0, bytes));
            Check.due("what came", due, () -> x.load(0, 41, 0, 0));
        }
        Check.due("more to the latest", 8, () -> x.data(0xCCBBAAL, 2, true));
        Check.due("none to the latest", 8, () -> x.data(0xCCBBAAL, 0, true));
        Check.due("bytes of the latest", 10, () -> x.size(5, 8));
        Check.due("bytes of the one before", 7, () -> x.size(5, 7));
        Check.due("segments", 9, () -> x.size(11, 0));
        x.init(0, 8, 0, 6, 4);
        Check.due("the end of the latest", 0xBBAA8877L, () -> x.load(0, 40, 0, 0));
        x.init(0, 7, 0, 3, 4);
        Check.due("the end of the one before", 0x77665544L, () -> x.load(0, 40, 0, 0));
    }

    private static void dataRefuses() {
        PagedMemory x = new PagedMemory();
        for (int n : new int[] {-1, 9, MIN, MAX}) {
            Check.due("data of " + n, -1, () -> x.data(0, n, false));
            Check.due("more of " + n, -1, () -> x.data(0, n, true));
        }
        Check.due("more of none", -1, () -> x.data(0, 1, true));
        Check.due("no segment was made", 0, () -> x.size(11, 0));
        x.data(5, 3, false);
        for (int n : new int[] {-1, 9, MIN, MAX}) {
            Check.due("more of " + n, -1, () -> x.data(0, n, true));
        }
        Check.due("nothing was added", 3, () -> x.size(5, 0));
        x.drop(0, false);
        Check.due("more to a dropped one", -1, () -> x.data(0, 1, true));
        Check.due("none more to a dropped one", -1, () -> x.data(0, 0, true));
        Check.due("the next one", 1, () -> x.data(0, 0, false));
        x.drop(0, false);
        Check.due("more to the next one", 1, () -> x.data(7, 1, true));
        x.drop(1, false);
        Check.due("an empty one", 2, () -> x.data(0, 0, false));
        x.drop(2, false);
        Check.due("more to an empty one that was dropped", -1, () -> x.data(0, 0, true));
    }

    private static void atMost24SegmentsOfBytes() {
        PagedMemory x = new PagedMemory();
        for (int i = 0; i < 24; i++) {
            Check.due("segment " + i, i, () -> x.data(1, 1, false));
        }
        Check.due("a 25th", -1, () -> x.data(1, 1, false));
        Check.due("a 25th, empty", -1, () -> x.data(1, 0, false));
        Check.due("segments", 24, () -> x.size(11, 0));
        Check.due("more to the 24th", 23, () -> x.data(1, 1, true));
        Check.due("bytes of the 24th", 2, () -> x.size(5, 23));
        x.drop(3, false);
        Check.due("a 25th after a drop", -1, () -> x.data(1, 1, false));
        Check.due("references are counted apart", 0, () -> x.element(1, false));
    }

    private static void atMost600Bytes() {
        PagedMemory x = new PagedMemory();
        Check.due("segment 0", 0, () -> x.data(-1, 8, false));
        for (int i = 1; i < 74; i++) {
            Check.due("more", 0, () -> x.data(-1, 8, true));
        }
        x.drop(0, false);
        Check.due("with 592: 7 in a new one", 1, () -> x.data(-1, 7, false));
        Check.due("with 599: 2 more", -1, () -> x.data(-1, 2, true));
        Check.due("with 599: 2 in a new one", -1, () -> x.data(-1, 2, false));
        Check.due("no segment was made", 2, () -> x.size(11, 0));
        Check.due("with 599: 1 more", 1, () -> x.data(-1, 1, true));
        Check.due("with 600: 1 more", -1, () -> x.data(-1, 1, true));
        Check.due("with 600: 1 in a new one", -1, () -> x.data(-1, 1, false));
        Check.due("with 600: none more", 1, () -> x.data(-1, 0, true));
        Check.due("with 600: none in a new one", 2, () -> x.data(-1, 0, false));
        Check.due("bytes of 1", 8, () -> x.size(5, 1));
        Check.due("bytes of 2", 0, () -> x.size(5, 2));
        Check.due("references are counted apart", 0, () -> x.element(1, false));
    }

    private static void elementTakesReferences() {
        PagedMemory x = new PagedMemory();
        x.table(112, 4, 4);
        Check.due("element(MAX)", 0, () -> x.element(MAX, false));
        Check.due("element(-1) more", 0, () -> x.element(-1, true));
        Check.due("element(0)", 1, () -> x.element(0, false));
        Check.due("element(6) more", 1, () -> x.element(6, true));
        Check.due("references of 0", 2, () -> x.size(6, 0));
        Check.due("references of 1", 2, () -> x.size(6, 1));
        x.initTable(0, 0, 0, 0, 2);
        x.initTable(0, 1, 2, 0, 2);
        int[] due = {MAX, -1, 0, 6};
        for (int i = 0; i < 4; i++) {
            int index = i;
            Check.due("reference " + i, due[i], () -> x.get(0, index));
        }
    }

    private static void elementRefuses() {
        PagedMemory x = new PagedMemory();
        Check.due("element(-2)", -1, () -> x.element(-2, false));
        Check.due("element(MIN)", -1, () -> x.element(MIN, false));
        Check.due("more of none", -1, () -> x.element(1, true));
        Check.due("none was made", 0, () -> x.size(12, 0));
        x.element(1, false);
        Check.due("element(-2) more", -1, () -> x.element(-2, true));
        Check.due("nothing was added", 1, () -> x.size(6, 0));
        x.drop(0, true);
        Check.due("more to a dropped one", -1, () -> x.element(1, true));
        Check.due("the next one", 1, () -> x.element(1, false));
        x.drop(0, true);
        Check.due("more to the next one", 1, () -> x.element(2, true));
    }

    private static void atMost24SegmentsOfReferences() {
        PagedMemory x = new PagedMemory();
        for (int i = 0; i < 24; i++) {
            Check.due("segment " + i, i, () -> x.element(1, false));
        }
        Check.due("a 25th", -1, () -> x.element(1, false));
        Check.due("segments", 24, () -> x.size(12, 0));
        Check.due("more to the 24th", 23, () -> x.element(1, true));
        x.drop(3, true);
        Check.due("a 25th after a drop", -1, () -> x.element(1, false));
        Check.due("bytes are counted apart", 0, () -> x.data(1, 1, false));
    }

    private static void atMost200References() {
        PagedMemory x = new PagedMemory();
        Check.due("segment 0", 0, () -> x.element(1, false));
        for (int i = 1; i < 150; i++) {
            Check.due("more", 0, () -> x.element(1, true));
        }
        x.drop(0, true);
        Check.due("segment 1", 1, () -> x.element(1, false));
        for (int i = 151; i < 200; i++) {
            Check.due("more", 1, () -> x.element(1, true));
        }
        Check.due("with 200: one more", -1, () -> x.element(1, true));
        Check.due("with 200: a new one", -1, () -> x.element(1, false));
        Check.due("segments", 2, () -> x.size(12, 0));
        Check.due("references of 1", 50, () -> x.size(6, 1));
        Check.due("entries are counted apart", 200, () -> x.size(8, 0));
    }

    private static void dropKeepsTheNumber() {
        PagedMemory x = new PagedMemory();
        x.memory(1, 1);
        x.data(0x11, 1, false);
        x.data(0x22, 1, false);
        x.element(3, false);
        x.element(4, false);
        Check.passes("drop of bytes", () -> x.drop(0, false));
        Check.due("its bytes", 0, () -> x.size(5, 0));
        Check.due("the other's bytes", 1, () -> x.size(5, 1));
        Check.due("references stay", 1, () -> x.size(6, 0));
        Check.due("it is counted still", 2, () -> x.size(11, 0));
        Check.passes("drop of references", () -> x.drop(1, true));
        Check.due("its references", 0, () -> x.size(6, 1));
        Check.due("the other's references", 1, () -> x.size(6, 0));
        Check.due("bytes stay", 1, () -> x.size(5, 1));
        Check.due("it is counted still", 2, () -> x.size(12, 0));
        Check.passes("drop again", () -> x.drop(0, false));
        Check.passes("drop again", () -> x.drop(1, true));
        x.init(0, 1, 0, 0, 1);
        Check.due("the other's byte", 0x22, () -> x.load(0, 41, 0, 0));
    }

    private static void dropRefuses() {
        PagedMemory x = new PagedMemory();
        x.data(0, 0, false);
        x.data(0, 0, false);
        x.element(0, false);
        for (int none : new int[] {-1, 2, 24, MIN, MAX}) {
            Check.illegal(x, "drop of bytes " + none, () -> x.drop(none, false));
            Check.illegal(x, "drop of references " + none, () -> x.drop(none, true));
        }
        Check.illegal(x, "drop of references 1", () -> x.drop(1, true));
        Check.passes("drop of bytes 1", () -> x.drop(1, false));
    }
}
