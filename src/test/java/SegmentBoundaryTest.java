/** The boundary cases that promises 9, 10 and 18 name, sentence by sentence: the last input on either side. */
public final class SegmentBoundaryTest {
    private static final int MAX = Integer.MAX_VALUE;
    private static final int MIN = Integer.MIN_VALUE;

    public static void main(String[] args) {
        Check.each(
            SegmentBoundaryTest::dataOfTheLowestBytes,
            SegmentBoundaryTest::dataAddedToTheLatest,
            SegmentBoundaryTest::dataOfAWrongNumber,
            SegmentBoundaryTest::dataWhenThereAre24,
            SegmentBoundaryTest::moreDataOfNone,
            SegmentBoundaryTest::moreDataOfADroppedOne,
            SegmentBoundaryTest::dataAbove600,
            SegmentBoundaryTest::dropOfOneKind,
            SegmentBoundaryTest::dropOfNone,
            SegmentBoundaryTest::elementOfOneReference,
            SegmentBoundaryTest::elementBelowNone,
            SegmentBoundaryTest::elementWhenThereAre24,
            SegmentBoundaryTest::moreElementsOfNone,
            SegmentBoundaryTest::moreElementsOfADroppedOne,
            SegmentBoundaryTest::elementAbove200);
        Check.finish();
    }

    private static void dataOfTheLowestBytes() {
        Check.sentence("Promise 9: A new segment of the n lowest bytes of a number (the lowest first)");
        for (int n = 0; n <= 8; n++) {
            int some = n;
            PagedMemory x = Made.pages(1, 1);
            x.fill(0, 0, 0xEE, 16);
            Check.due("data of " + n, 0, () -> x.data(0x8877665544332211L, some, false));
            Check.due("its bytes", n, () -> x.size(5, 0));
            Check.passes(x, "init of all", () -> x.init(0, 0, 0, 0, some));
            Check.traps(x, 4, "init of one more", () -> x.init(0, 0, 0, 0, some + 1));
            for (int i = 0; i <= 8; i++) {
                int at = i;
                Check.due("byte " + i + " of " + n, i < n ? 0x11 * (i + 1) : 0xEE, () -> x.load(0, 45, at, 0));
            }
        }
    }

    private static void dataAddedToTheLatest() {
        Check.sentence("Promise 9: or, with more, they are added to the latest one: its number");
        PagedMemory x = Made.all();
        Check.due("8 more", 1, () -> x.data(0x2B2A292827262524L, 8, true));
        Check.due("0 more", 1, () -> x.data(-1, 0, true));
        Check.due("1 more", 1, () -> x.data(0xFF2CL, 1, true));
        Check.due("bytes of the latest", 12, () -> x.size(5, 1));
        Check.due("bytes of the one before", 8, () -> x.size(5, 0));
        Check.due("segments", 2, () -> x.size(11, 0));
        x.init(0, 1, 0, 0, 12);
        Check.due("its first bytes", 0x2827262524232221L, () -> x.load(0, 41, 0, 0));
        Check.due("its last bytes", 0x2C2B2A29L, () -> x.load(0, 40, 8, 0));
        Check.due("a new one", 2, () -> x.data(0x31, 1, false));
        Check.due("more to it", 2, () -> x.data(0x32, 1, true));
        Check.due("bytes of the former one", 12, () -> x.size(5, 1));
    }

    private static void dataOfAWrongNumber() {
        Check.sentence("Promise 9: -1, doing nothing, when n is not 0 .. 8");
        Check.due("data of 0", 2, () -> Made.all().data(7, 0, false));
        Check.due("data of 8", 2, () -> Made.all().data(7, 8, false));
        Check.due("0 more", 1, () -> Made.all().data(7, 0, true));
        Check.due("8 more", 1, () -> Made.all().data(7, 8, true));
        for (int n : new int[] {-1, 9, 16, -8, MIN, MAX}) {
            Check.refused("data of " + n, Made::all, x -> x.data(7, n, false));
            Check.refused(n + " more", Made::all, x -> x.data(7, n, true));
        }
    }

    private static void dataWhenThereAre24() {
        Check.sentence("Promise 9: -1, doing nothing, when there are 24 (no room for a new one)");
        Check.due("with 23", 23, () -> Made.segmentsOfBytes(23).data(7, 1, false));
        Check.refused("with 24", () -> Made.segmentsOfBytes(24), x -> x.data(7, 1, false));
        Check.refused("with 24, of 0", () -> Made.segmentsOfBytes(24), x -> x.data(7, 0, false));
        Check.due("more with 24", 23, () -> Made.segmentsOfBytes(24).data(7, 1, true));
        Check.due("with 24 of references", 0, () -> Made.segmentsOfReferences(24).data(7, 1, false));
    }

    private static void moreDataOfNone() {
        Check.sentence("Promise 9: -1, doing nothing, when there is none (for more)");
        for (int n : new int[] {0, 1, 8}) {
            Check.refused(n + " more to none", PagedMemory::new, x -> x.data(7, n, true));
            Check.refused(n + " more with one of references", () -> Made.references(1), x -> x.data(7, n, true));
            Check.due(n + " more to one", 0, () -> Made.segmentsOfBytes(1).data(7, n, true));
            Check.due(n + " more to an empty one", 0, () -> Made.bytes(0).data(7, n, true));
        }
    }

    private static PagedMemory withDropped(int segment, boolean references) {
        PagedMemory x = Made.all();
        x.drop(segment, references);
        return x;
    }

    private static void moreDataOfADroppedOne() {
        Check.sentence("Promise 9: -1, doing nothing, when it was dropped (for more)");
        for (int n : new int[] {0, 1, 8}) {
            Check.refused(n + " more to a dropped one", () -> withDropped(1, false), x -> x.data(7, n, true));
            Check.due(n + " more when an earlier one was dropped", 1, () -> withDropped(0, false).data(7, n, true));
            Check.due(n + " more when one of references was", 1, () -> withDropped(1, true).data(7, n, true));
            Check.due(n + " in a new one", 2, () -> withDropped(1, false).data(7, n, false));
        }
        PagedMemory empty = Made.bytes(0);
        empty.drop(0, false);
        Check.due("more to an empty one that was dropped", -1, () -> empty.data(7, 0, true));
        Check.due("a new one behind it", 1, () -> empty.data(7, 1, false));
        Check.due("more to the new one", 1, () -> empty.data(7, 1, true));
    }

    private static void dataAbove600() {
        Check.sentence("Promise 9: -1, doing nothing, when there would be more than 600 bytes");
        for (int n = 1; n <= 8; n++) {
            int some = n;
            Check.due(n + " up to 600", 1, () -> Made.bytes(600 - some).data(7, some, false));
            Check.due(n + " more up to 600", 0, () -> Made.bytes(600 - some).data(7, some, true));
            PagedMemory x = Made.bytes(601 - n);
            Check.due(n + " up to 601", -1, () -> x.data(7, some, false));
            Check.due(n + " more up to 601", -1, () -> x.data(7, some, true));
            Check.due("segments", 1, () -> x.size(11, 0));
            Check.due("bytes", 601 - n, () -> x.size(5, 0));
            Check.due("one less is taken", 0, () -> x.data(7, some - 1, true));
        }
        PagedMemory full = Made.bytes(600);
        Check.due("0 more with 600", 0, () -> full.data(7, 0, true));
        Check.due("0 in a new one with 600", 1, () -> full.data(7, 0, false));
        Check.passes(full, "init of the 600th", () -> full.init(0, 0, 0, 599, 1));
        Check.due("it", 600 & 0xFF, () -> full.load(0, 45, 0, 0));
    }

    private static void dropOfOneKind() {
        Check.sentence("Promise 10: A segment is DROPPED: of bytes, or of references");
        int[][] left = {{8, 3}, {2, 1}};
        for (int segment = 0; segment < 2; segment++) {
            for (int kind = 0; kind < 2; kind++) {
                int dropped = segment;
                boolean references = kind == 1;
                PagedMemory x = Made.all();
                Check.passes("drop(" + segment + ", " + references + ")", () -> x.drop(dropped, references));
                for (int k = 0; k < 4; k++) {
                    int what = 5 + k / 2;
                    int other = k % 2;
                    boolean gone = k / 2 == kind && other == segment;
                    Check.due("size(" + what + ", " + other + ")", gone ? 0 : left[k / 2][other],
                        () -> x.size(what, other));
                }
            }
        }
    }

    private static void dropOfNone() {
        Check.sentence("Promise 10: IllegalArgumentException: there is none such");
        PagedMemory y = Made.all();
        y.data(7, 1, false);
        Check.passes("drop of bytes 2", () -> y.drop(2, false));
        Check.illegal(y, "drop of references 2", () -> y.drop(2, true));
        for (int none : new int[] {-1, 2, 24, MIN, MAX}) {
            Check.illegal("drop of bytes " + none, Made::all, x -> x.drop(none, false));
            Check.illegal("drop of references " + none, Made::all, x -> x.drop(none, true));
        }
        Check.lastOfAll(23, "drop of bytes ", (x, k) -> x.drop(k, false));
        Check.lastOfAll(23, "drop of references ", (x, k) -> x.drop(k, true));
    }

    private static void elementOfOneReference() {
        Check.sentence("Promise 18: A new segment of one reference, or, with more, it is added to the latest one");
        PagedMemory x = Made.all();
        Check.due("more", 1, () -> x.element(912, true));
        Check.due("a new one", 2, () -> x.element(921, false));
        Check.due("more to it", 2, () -> x.element(-1, true));
        int[] due = {2, 2, 2};
        for (int k = 0; k < 3; k++) {
            int segment = k;
            Check.due("references of " + k, due[k], () -> x.size(6, segment));
        }
        x.initTable(0, 1, 0, 0, 2);
        x.initTable(0, 2, 2, 0, 2);
        int[] entries = {911, 912, 921, -1};
        for (int i = 0; i < 4; i++) {
            int index = i;
            Check.due("reference " + i, entries[i], () -> x.get(0, index));
        }
        Check.traps(x, 5, "one more than it has", () -> x.initTable(0, 1, 0, 0, 3));
    }

    private static void elementBelowNone() {
        Check.sentence("Promise 18: -1, doing nothing, when reference is below -1");
        for (int reference : new int[] {-1, 0, MAX}) {
            Check.due("element " + reference, 2, () -> Made.all().element(reference, false));
            Check.due("more of " + reference, 1, () -> Made.all().element(reference, true));
        }
        for (int reference : new int[] {-2, -3, MIN}) {
            Check.refused("element " + reference, Made::all, x -> x.element(reference, false));
            Check.refused("more of " + reference, Made::all, x -> x.element(reference, true));
        }
    }

    private static void elementWhenThereAre24() {
        Check.sentence("Promise 18: -1, doing nothing, when there are 24");
        Check.due("with 23", 23, () -> Made.segmentsOfReferences(23).element(7, false));
        Check.refused("with 24", () -> Made.segmentsOfReferences(24), x -> x.element(7, false));
        // The document's words for data say that 24 leave no room for a new one; read so here too.
        Check.due("more with 24", 23, () -> Made.segmentsOfReferences(24).element(7, true));
        Check.due("with 24 of bytes", 0, () -> Made.segmentsOfBytes(24).element(7, false));
    }

    private static void moreElementsOfNone() {
        Check.sentence("Promise 18: -1, doing nothing, when there is none (for more)");
        Check.refused("more to none", PagedMemory::new, x -> x.element(7, true));
        Check.refused("more with one of bytes", () -> Made.segmentsOfBytes(1), x -> x.element(7, true));
        Check.due("more to one", 0, () -> Made.references(1).element(7, true));
    }

    private static void moreElementsOfADroppedOne() {
        Check.sentence("Promise 18: -1, doing nothing, when it was dropped (for more)");
        Check.refused("more to a dropped one", () -> withDropped(1, true), x -> x.element(7, true));
        Check.due("more when an earlier one was dropped", 1, () -> withDropped(0, true).element(7, true));
        Check.due("more when one of bytes was", 1, () -> withDropped(1, false).element(7, true));
        Check.due("a new one", 2, () -> withDropped(1, true).element(7, false));
    }

    private static void elementAbove200() {
        Check.sentence("Promise 18: -1, doing nothing, when there would be more than 200 references");
        Check.due("the 200th", 1, () -> Made.references(199).element(7, false));
        Check.due("the 200th more", 0, () -> Made.references(199).element(7, true));
        PagedMemory x = Made.references(200);
        Check.due("the 201st", -1, () -> x.element(7, false));
        Check.due("the 201st more", -1, () -> x.element(7, true));
        Check.due("segments", 1, () -> x.size(12, 0));
        Check.due("references", 200, () -> x.size(6, 0));
        Check.passes(x, "initTable of the 200th", () -> x.initTable(0, 0, 0, 199, 1));
        Check.due("it", 199, () -> x.get(0, 0));
    }
}
