/** The boundary cases that promises 19 and 20 name, sentence by sentence: the last input on either side. */
public final class AnswerBoundaryTest {
    private static final int MAX = Integer.MAX_VALUE;
    private static final int MIN = Integer.MIN_VALUE;

    public static void main(String[] args) {
        Check.each(
            AnswerBoundaryTest::trapWhenThereWasNone,
            AnswerBoundaryTest::trapOfTheLatestCall,
            AnswerBoundaryTest::trapZeroWhenItWasNone,
            AnswerBoundaryTest::trapStaysOverOtherCalls,
            AnswerBoundaryTest::sizesOfMemories,
            AnswerBoundaryTest::sizesOfTables,
            AnswerBoundaryTest::sizesOfSegments,
            AnswerBoundaryTest::whatIsLeft,
            AnswerBoundaryTest::howManyThereAre,
            AnswerBoundaryTest::kIsNotLookedAt,
            AnswerBoundaryTest::noKthOne,
            AnswerBoundaryTest::whatIsAnother);
        Check.finish();
    }

    /** The calls that may be a TRAP, at the last place inside (0) or the first one beyond (1). */
    private static Runnable[] calls(PagedMemory x, int beyond) {
        return new Runnable[] {() -> x.load(0, 45, 255 + beyond, 0), () -> x.store(0, 58, 255 + beyond, 0, 1),
            () -> x.fill(0, 255 + beyond, 1, 1), () -> x.copy(0, 0, 255 + beyond, 1),
            () -> x.init(0, 0, 0, 7 + beyond, 1), () -> x.get(0, 3 + beyond), () -> x.set(0, 3 + beyond, 1),
            () -> x.fillTable(0, 3 + beyond, 1, 1), () -> x.copyTable(0, 1, 0, 2 + beyond, 1),
            () -> x.initTable(0, 0, 0, 1 + beyond, 1)};
    }

    private static void trapWhenThereWasNone() {
        Check.sentence("Promise 19: 0 when there was none");
        PagedMemory x = new PagedMemory();
        Check.due("trap() of a new object", 0, x::trap);
        Check.due("a call that can't trap", -1, () -> x.grow(0, 1));
        Check.due("trap() after it", 0, x::trap);
        Check.due("a memory", 0, () -> x.memory(0, 0));
        Check.traps(x, 4, "fill beyond its end", () -> x.fill(0, 1, 0, 0));
        Check.due("trap() of another new object", 0, () -> new PagedMemory().trap());
    }

    private static void trapOfTheLatestCall() {
        Check.sentence("Promise 19: Which TRAP the latest call was that may be one: 4, 5");
        PagedMemory x = Made.all();
        Runnable[] beyond = calls(x, 1);
        for (int i = 0; i < beyond.length; i++) {
            int number = i < 5 ? 4 : 5;
            // The trap before it is of the other kind.
            Check.traps(x, 9 - number, "beyond, of the other kind", beyond[9 - i]);
            Check.traps(x, number, "beyond, call " + i, beyond[i]);
            Check.due("trap() again", number, x::trap);
        }
    }

    private static void trapZeroWhenItWasNone() {
        Check.sentence("Promise 19: or 0 when it was none");
        for (int i = 0; i < 10; i++) {
            PagedMemory x = Made.all();
            Check.traps(x, i < 5 ? 5 : 4, "beyond, of the other kind", calls(x, 1)[9 - i]);
            Check.passes(x, "inside, call " + i, calls(x, 0)[i]);
            Check.traps(x, i < 5 ? 4 : 5, "beyond, call " + i, calls(x, 1)[i]);
            Check.passes(x, "inside, call " + i, calls(x, 0)[i]);
        }
        PagedMemory y = Made.all();
        Runnable[] illegal = {() -> y.load(2, 45, 0, 0), () -> y.load(0, 39, 0, 0), () -> y.store(2, 58, 0, 0, 1),
            () -> y.store(0, 63, 0, 0, 1), () -> y.fill(2, 0, 0, 0), () -> y.copy(2, 0, 0, 0),
            () -> y.init(2, 0, 0, 0, 0), () -> y.init(0, 2, 0, 0, 0), () -> y.get(3, 0), () -> y.set(3, 0, 0),
            () -> y.set(0, 0, -2), () -> y.fillTable(3, 0, 0, 0), () -> y.fillTable(0, 0, -2, 0),
            () -> y.copyTable(3, 0, 0, 0, 0), () -> y.copyTable(0, 3, 0, 0, 0), () -> y.copyTable(0, 2, 0, 0, 0),
            () -> y.initTable(3, 0, 0, 0, 0), () -> y.initTable(0, 2, 0, 0, 0)};
        for (int i = 0; i < illegal.length; i++) {
            Check.traps(y, i % 2 == 0 ? 4 : 5, "beyond", calls(y, 1)[i % 2 * 5]);
            Check.illegal(y, "illegal call " + i, illegal[i]);
        }
    }

    private static void trapStaysOverOtherCalls() {
        Check.sentence("Promise 19: (load, store, fill, copy, init, get, set, and the same of tables)");
        for (int number = 4; number <= 5; number++) {
            PagedMemory x = Made.all();
            Check.traps(x, number, "beyond", calls(x, 1)[number == 4 ? 0 : 5]);
            Runnable[] others = {() -> x.memory(1, 1), () -> x.memory(-1, 1), () -> x.grow(0, 1), () -> x.grow(9, 1),
                () -> x.data(0, 1, false), () -> x.data(0, 9, false), () -> x.drop(0, false), () -> x.drop(0, true),
                () -> x.table(111, 1, 1), () -> x.table(0, 1, 1), () -> x.growTable(0, 1, 1),
                () -> x.growTable(9, 1, 1), () -> x.element(1, false), () -> x.element(-2, false), () -> x.size(0, 0),
                () -> x.size(99, 0)};
            for (int i = 0; i < others.length; i++) {
                Check.passes("other call " + i, others[i]);
                Check.due("trap() after other call " + i, number, x::trap);
            }
            Check.compare("drop of none", "throws.IllegalArgumentException", Check.answer(() -> x.drop(9, false)));
            Check.due("trap() after drop of none", number, x::trap);
        }
    }

    private static void sizes(PagedMemory x, int what, int... due) {
        for (int i = 0; i < due.length; i++) {
            int k = i;
            Check.due("size(" + what + ", " + k + ")", due[k], () -> x.size(what, k));
        }
        Check.due("size(" + what + ", " + due.length + ")", -1, () -> x.size(what, due.length));
        Check.due("size(" + what + ", -1)", -1, () -> x.size(what, -1));
    }

    private static void sizesOfMemories() {
        Check.sentence("Promise 20: 0 the pages of a memory, 1 its limit");
        PagedMemory x = Made.pages(0, 0);
        x.memory(48, 65536);
        x.memory(0, 1);
        sizes(x, 0, 0, 48, 0);
        sizes(x, 1, 0, 65536, 1);
        PagedMemory y = Made.all();
        y.grow(0, 2);
        sizes(y, 0, 3, 1);
        sizes(y, 1, 3, 65536);
    }

    private static void sizesOfTables() {
        Check.sentence("Promise 20: 2 the entries of a table, 3 its limit (as an int), 4 its type");
        PagedMemory x = Made.entries(0, 0);
        x.table(111, 200, MAX);
        x.table(112, 0, MIN);
        x.table(111, 0, -1);
        sizes(x, 2, 0, 200, 0, 0);
        sizes(x, 3, 0, MAX, MIN, -1);
        sizes(x, 4, 112, 111, 112, 111);
        PagedMemory y = Made.all();
        y.growTable(1, 1, 0);
        sizes(y, 2, 4, 4, 2);
        sizes(y, 3, 6, -1, 2);
    }

    private static void sizesOfSegments() {
        Check.sentence("Promise 20: 5 the bytes of a segment of bytes, 6 the references of one of references");
        PagedMemory x = Made.all();
        x.data(0, 0, false);
        x.element(1, false);
        sizes(x, 5, 8, 3, 0);
        sizes(x, 6, 2, 1, 1);
        x.drop(1, false);
        x.drop(0, true);
        sizes(x, 5, 8, 0, 0);
        sizes(x, 6, 0, 1, 1);
        sizes(Made.bytes(600), 5, 600);
        sizes(Made.references(200), 6, 200);
        sizes(Made.segmentsOfBytes(24), 5, 1, 1, 1, 1, 1, 1, 1, 1, 1, 1, 1, 1, 1, 1, 1, 1, 1, 1, 1, 1, 1, 1, 1, 1);
    }

    private static void whatIsLeft() {
        Check.sentence("Promise 20: 7, 8 how many pages, entries are left");
        PagedMemory x = new PagedMemory();
        Check.due("all pages", 48, () -> x.size(7, 0));
        Check.due("all entries", 200, () -> x.size(8, 0));
        x.memory(1, 48);
        x.table(112, 1, 200);
        Check.due("all pages but 1", 47, () -> x.size(7, 0));
        Check.due("all entries but 1", 199, () -> x.size(8, 0));
        x.memory(49, 49);
        x.grow(0, 48);
        x.table(112, 201, 201);
        x.growTable(0, 200, 0);
        Check.due("pages after refused calls", 47, () -> x.size(7, 0));
        Check.due("entries after refused calls", 199, () -> x.size(8, 0));
        x.grow(0, 46);
        x.growTable(0, 198, 0);
        Check.due("one page", 1, () -> x.size(7, 0));
        Check.due("one entry", 1, () -> x.size(8, 0));
        x.memory(1, 1);
        x.table(112, 1, 1);
        Check.due("no page", 0, () -> x.size(7, 0));
        Check.due("no entry", 0, () -> x.size(8, 0));
    }

    private static void counts(PagedMemory x, int memories, int tables, int bytes, int references) {
        int[] due = {memories, tables, bytes, references};
        for (int i = 0; i < 4; i++) {
            int what = 9 + i;
            Check.due("size(" + what + ", 0)", due[i], () -> x.size(what, 0));
        }
    }

    private static void howManyThereAre() {
        Check.sentence("Promise 20: 9, 10, 11, 12 how many memories, tables, segments there are");
        PagedMemory x = new PagedMemory();
        counts(x, 0, 0, 0, 0);
        x.memory(0, 0);
        counts(x, 1, 0, 0, 0);
        x.table(112, 0, 0);
        counts(x, 1, 1, 0, 0);
        x.data(0, 0, false);
        counts(x, 1, 1, 1, 0);
        x.element(0, false);
        counts(x, 1, 1, 1, 1);
        x.data(0, 1, true);
        x.element(0, true);
        counts(x, 1, 1, 1, 1);
        x.drop(0, false);
        x.drop(0, true);
        counts(x, 1, 1, 1, 1);
        // One call more of each than there may be.
        for (int i = 0; i < 24; i++) {
            x.memory(0, 0);
            x.table(111, 0, 0);
            x.data(0, 0, false);
            x.element(0, false);
        }
        counts(x, 6, 6, 24, 24);
    }

    private static void kIsNotLookedAt() {
        Check.sentence("Promise 20: (k is not looked at for 7 to 12)");
        PagedMemory x = Made.all();
        int[] due = {46, 191, 2, 3, 2, 2};
        for (int k : new int[] {-1, 0, 1, 2, 3, 24, MIN, MAX}) {
            for (int i = 0; i < due.length; i++) {
                int what = 7 + i;
                Check.due("size(" + what + ", " + k + ")", due[i], () -> x.size(what, k));
            }
        }
    }

    private static void noKthOne() {
        Check.sentence("Promise 20: -1 when there is no k-th one");
        PagedMemory x = Made.all();
        int[] counts = {2, 2, 3, 3, 3, 2, 2};
        int[] ofTheLast = {1, 2, 1, 2, 111, 1, 1};
        for (int i = 0; i < counts.length; i++) {
            int what = i;
            for (int k : new int[] {-1, counts[i], 6, 24, 600, MIN, MAX}) {
                Check.due("size(" + what + ", " + k + ")", -1, () -> x.size(what, k));
                Check.due("size(" + what + ", " + k + ") of a new object", -1, () -> new PagedMemory().size(what, k));
            }
            int last = i < 5 ? 5 : 23;
            PagedMemory full = Made.full();
            Check.due("size(" + what + ", " + last + ") of all", ofTheLast[i], () -> full.size(what, last));
            Check.due("size(" + what + ", " + (last + 1) + ") of all", -1, () -> full.size(what, last + 1));
        }
    }

    private static void whatIsAnother() {
        Check.sentence("Promise 20: -1 when what is another");
        PagedMemory x = Made.all();
        Check.due("size(0, 0)", 1, () -> x.size(0, 0));
        Check.due("size(12, 0)", 2, () -> x.size(12, 0));
        for (int what : new int[] {-1, 13, 14, 256, MIN, MAX}) {
            for (int k : new int[] {-1, 0, 1}) {
                Check.due("size(" + what + ", " + k + ")", -1, () -> x.size(what, k));
            }
        }
    }
}
