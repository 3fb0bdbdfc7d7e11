import java.util.function.Consumer;

/** The boundary cases that promises 11 to 17 name, sentence by sentence: the last input on either side. */
public final class TableBoundaryTest {
    private static final int MAX = Integer.MAX_VALUE;
    private static final int MIN = Integer.MIN_VALUE;
    /** Made.all() has three tables, of 4, 3 and 2 entries, and two segments of references. */
    private static final int[] NO_TABLE = {-1, 3, 6, MIN, MAX};
    private static final int[] NO_SEGMENT = {-1, 2, 24, MIN, MAX};
    private static final int[] NO_REFERENCE = {-2, -3, MIN};

    public static void main(String[] args) {
        Check.each(
            TableBoundaryTest::numbersOfTables,
            TableBoundaryTest::tableWhenThereAreSix,
            TableBoundaryTest::tableOfAnotherType,
            TableBoundaryTest::tableOfEntriesBelowZero,
            TableBoundaryTest::tableOfEntriesAboveLimit,
            TableBoundaryTest::tableOfEntriesNotLeft,
            TableBoundaryTest::getAtAnIndex,
            TableBoundaryTest::getOfNoTable,
            TableBoundaryTest::getBeyondItsEnd,
            TableBoundaryTest::setAtAnIndex,
            TableBoundaryTest::setOfNoTable,
            TableBoundaryTest::setOfNoReference,
            TableBoundaryTest::setBeyondItsEnd,
            TableBoundaryTest::growTableTellsWhatItHad,
            TableBoundaryTest::growTableWithoutSign,
            TableBoundaryTest::growTableOfNoTable,
            TableBoundaryTest::growTableOfNoReference,
            TableBoundaryTest::growTableAboveItsLimit,
            TableBoundaryTest::growTableByEntriesNotLeft,
            TableBoundaryTest::fillTableFromAnIndexOn,
            TableBoundaryTest::fillTableOfNoTable,
            TableBoundaryTest::fillTableOfNoReference,
            TableBoundaryTest::copyTableFromTheOther,
            TableBoundaryTest::copyTableOfNoTable,
            TableBoundaryTest::copyTableOfAnotherType,
            TableBoundaryTest::initTableFromAPlaceOfASegment,
            TableBoundaryTest::initTableOfNoTable,
            TableBoundaryTest::initTableOfNoSegment);
        Check.finish();
    }

    private static void illegal(String call, Consumer<PagedMemory> body) {
        Check.illegal(call, Made::all, body);
    }

    private static void entriesAre(PagedMemory x, int table, int... due) {
        for (int i = 0; i < due.length; i++) {
            int index = i;
            Check.due("entry " + i + " of table " + table, due[i], () -> x.get(table, index));
        }
        Check.traps(x, 5, "the entry behind table " + table, () -> x.get(table, due.length));
    }

    private static void numbersOfTables() {
        Check.sentence("Promise 11: A new table with so many entries, all none: its number");
        PagedMemory x = new PagedMemory();
        int[][] none = {{}, {-1}, {-1, -1}, {-1, -1, -1}, {-1, -1, -1, -1}, {-1, -1, -1, -1, -1}};
        for (int k = 0; k < 6; k++) {
            int entries = k;
            Check.due("table " + k, k, () -> x.table(112, entries, 10));
            entriesAre(x, k, none[k]);
        }
        Check.due("a number is not used up by a refused call", 0, () -> {
            PagedMemory y = new PagedMemory();
            y.table(112, -1, 0);
            return y.table(112, 0, 0);
        });
        PagedMemory last = Made.entries(199, 199);
        last.table(111, 1, 1);
        Check.due("the 199th entry of all", -1, () -> last.get(0, 198));
        Check.due("the 200th entry of all", -1, () -> last.get(1, 0));
    }

    private static PagedMemory tables(int count) {
        PagedMemory x = new PagedMemory();
        for (int k = 0; k < count; k++) {
            x.table(112, 0, 1);
        }
        return x;
    }

    private static void tableWhenThereAreSix() {
        Check.sentence("Promise 11: -1 when there are 6");
        Check.due("when there are 5", 5, () -> tables(5).table(112, 0, 0));
        Check.refused("when there are 6", () -> tables(6), x -> x.table(112, 0, 0));
    }

    private static void tableOfAnotherType() {
        Check.sentence("Promise 11: -1 when type is not 112 or 111");
        for (int type : new int[] {111, 112}) {
            Check.due("type " + type, 0, () -> new PagedMemory().table(type, 1, 1));
        }
        for (int type : new int[] {110, 113, 0, -1, 111 + 256, 112 + 65536, MIN, MAX}) {
            Check.refused("type " + type, PagedMemory::new, x -> x.table(type, 1, 1));
        }
    }

    private static void tableOfEntriesBelowZero() {
        Check.sentence("Promise 11: -1 when entries is below 0");
        Check.due("table of 0", 0, () -> new PagedMemory().table(112, 0, -1));
        for (int entries : new int[] {-1, -200, MIN}) {
            Check.refused("table of " + entries, PagedMemory::new, x -> x.table(112, entries, -1));
            Check.refused("table of " + entries + " to 1", PagedMemory::new, x -> x.table(112, entries, 1));
        }
    }

    private static void tableOfEntriesAboveLimit() {
        Check.sentence("Promise 11: -1 when entries is above limit (both 32 bits; limit without sign)");
        for (int limit : new int[] {0, 1, 199}) {
            Check.due("entries are limit " + limit, 0, () -> new PagedMemory().table(112, limit, limit));
            Check.refused("one above limit " + limit, PagedMemory::new, x -> x.table(112, limit + 1, limit));
        }
        for (int limit : new int[] {MAX, MIN, -1}) {
            Check.due("limit " + limit, 0, () -> new PagedMemory().table(112, 200, limit));
        }
    }

    private static void tableOfEntriesNotLeft() {
        Check.sentence("Promise 11: -1 when there are not so many left");
        Check.due("200 of 200", 0, () -> new PagedMemory().table(112, 200, -1));
        for (int entries : new int[] {201, MAX}) {
            Check.refused(entries + " of 200", PagedMemory::new, x -> x.table(112, entries, -1));
        }
        Check.due("191 of 191", 3, () -> Made.all().table(112, 191, -1));
        Check.refused("192 of 191", Made::all, x -> x.table(112, 192, -1));
        Check.due("0 of 0", 1, () -> Made.entries(200, 200).table(112, 0, 1));
        Check.due("1 of 0", -1, () -> Made.entries(200, 200).table(112, 1, 1));
    }

    private static void getAtAnIndex() {
        Check.sentence("Promise 12: The reference at an index");
        PagedMemory x = Made.all();
        entriesAre(x, 0, 0, 1, 2, 3);
        entriesAre(x, 1, 100, 101, 102);
        entriesAre(x, 2, 200, 201);
    }

    private static void getOfNoTable() {
        Check.sentence("Promise 12: IllegalArgumentException: there is no such table");
        Check.due("get of table 2", 200, () -> Made.all().get(2, 0));
        for (int none : NO_TABLE) {
            illegal("get of table " + none, x -> x.get(none, 0));
        }
        Check.illegal("get of a table where there is none", PagedMemory::new, x -> x.get(0, 0));
        Check.lastOfAll(5, "get of table ", (x, k) -> x.get(k, 0));
    }

    private static void getBeyondItsEnd() {
        Check.sentence("Promise 12: a TRAP (5: beyond its end)");
        int[] ends = {4, 3, 2};
        for (int k = 0; k < 3; k++) {
            int table = k;
            PagedMemory x = Made.all();
            Check.due("the last of table " + k, 100 * k + ends[k] - 1, () -> x.get(table, ends[table] - 1));
            Check.due("trap()", 0, x::trap);
            for (int index : new int[] {ends[k], ends[k] + 1, 200, MAX, MIN, -1}) {
                Check.traps(x, 5, "get at " + index + " of table " + k, () -> x.get(table, index));
            }
        }
        PagedMemory empty = Made.entries(0, 1);
        Check.traps(empty, 5, "get of no entries", () -> empty.get(0, 0));
        empty.growTable(0, 1, 8);
        Check.due("get of one entry", 8, () -> empty.get(0, 0));
        Check.traps(empty, 5, "get behind one entry", () -> empty.get(0, 1));
    }

    private static void setAtAnIndex() {
        Check.sentence("Promise 13: The entry at an index becomes a reference");
        PagedMemory x = Made.all();
        Check.passes(x, "the first of table 1", () -> x.set(1, 0, MAX));
        Check.passes(x, "the last of table 1", () -> x.set(1, 2, -1));
        entriesAre(x, 0, 0, 1, 2, 3);
        entriesAre(x, 1, MAX, 101, -1);
        entriesAre(x, 2, 200, 201);
    }

    private static void setOfNoTable() {
        Check.sentence("Promise 13: IllegalArgumentException: there is no such table");
        Check.passes("set in table 2", () -> Made.all().set(2, 0, 9));
        for (int none : NO_TABLE) {
            illegal("set in table " + none, x -> x.set(none, 0, 9));
        }
        Check.lastOfAll(5, "set in table ", (x, k) -> x.set(k, 0, 9));
    }

    private static void setOfNoReference() {
        Check.sentence("Promise 13: IllegalArgumentException: reference is below -1");
        for (int reference : new int[] {-1, 0, MAX}) {
            PagedMemory x = Made.all();
            Check.passes(x, "set " + reference, () -> x.set(0, 0, reference));
            entriesAre(x, 0, reference, 1, 2, 3);
        }
        for (int none : NO_REFERENCE) {
            illegal("set " + none, x -> x.set(0, 0, none));
        }
    }

    private static void setBeyondItsEnd() {
        Check.sentence("Promise 13: a TRAP (5)");
        PagedMemory y = Made.all();
        Check.passes(y, "set at 3", () -> y.set(0, 3, 9));
        for (int index : new int[] {4, 5, 200, MAX, MIN, -1}) {
            Check.traps(5, "set at " + index, Made::all, x -> x.set(0, index, 9));
        }
    }

    private static void growTableTellsWhatItHad() {
        Check.sentence("Promise 14: A table grows by n entries that are this reference: how many it had");
        PagedMemory x = Made.all();
        Check.due("0 by 0", 4, () -> x.growTable(0, 0, 7));
        Check.due("0 by 1", 4, () -> x.growTable(0, 1, 8));
        Check.due("0 by 1", 5, () -> x.growTable(0, 1, -1));
        Check.due("0 by 0", 6, () -> x.growTable(0, 0, 7));
        Check.due("1 by 2", 3, () -> x.growTable(1, 2, MAX));
        entriesAre(x, 0, 0, 1, 2, 3, 8, -1);
        entriesAre(x, 1, 100, 101, 102, MAX, MAX);
        entriesAre(x, 2, 200, 201);
        Check.due("entries", 6, () -> x.size(2, 0));
        Check.due("entries left", 187, () -> x.size(8, 0));
    }

    private static void growTableWithoutSign() {
        Check.sentence("Promise 14: n entries (32 bits without sign)");
        for (int n : new int[] {-1, -3, -4, MIN, MIN + 1, MAX}) {
            Check.refused("grow by " + n, Made::all, x -> x.growTable(0, n, 9));
            Check.refused("grow by " + n + " to the highest limit", Made::all, x -> x.growTable(1, n, 9));
        }
    }

    private static void growTableOfNoTable() {
        Check.sentence("Promise 14: -1, doing nothing, when there is no such table");
        Check.due("growTable of 2", 2, () -> Made.all().growTable(2, 0, 9));
        for (int none : NO_TABLE) {
            Check.refused("growTable of " + none, Made::all, x -> x.growTable(none, 1, 9));
            Check.refused("growTable of " + none + " by 0", Made::all, x -> x.growTable(none, 0, 9));
        }
        Check.due("growTable of the sixth", 1, () -> Made.full().growTable(5, 1, 9));
        Check.due("growTable of a seventh", -1, () -> Made.full().growTable(6, 1, 9));
    }

    private static void growTableOfNoReference() {
        Check.sentence("Promise 14: -1, doing nothing, when reference is below -1");
        for (int reference : new int[] {-1, 0, MAX}) {
            Check.due("with " + reference, 4, () -> Made.all().growTable(0, 1, reference));
        }
        for (int none : NO_REFERENCE) {
            Check.refused("with " + none, Made::all, x -> x.growTable(0, 1, none));
            Check.refused("by 0 with " + none, Made::all, x -> x.growTable(0, 0, none));
        }
    }

    private static void growTableAboveItsLimit() {
        Check.sentence("Promise 14: -1, doing nothing, when it would have more than its limit");
        Check.due("to the limit of 6", 4, () -> Made.all().growTable(0, 2, 9));
        Check.refused("above the limit of 6", Made::all, x -> x.growTable(0, 3, 9));
        Check.due("by 0 at its limit", 2, () -> Made.all().growTable(2, 0, 9));
        Check.refused("by 1 at its limit", Made::all, x -> x.growTable(2, 1, 9));
        Check.refused("by 1 at the limit of 0", () -> Made.entries(0, 0), x -> x.growTable(0, 1, 9));
        for (int limit : new int[] {MAX, MIN, -1}) {
            Check.due("to all with limit " + limit, 1, () -> Made.entries(1, limit).growTable(0, 199, 9));
        }
    }

    private static void growTableByEntriesNotLeft() {
        Check.sentence("Promise 14: -1, doing nothing, when there are not so many left");
        Check.due("by all 191 that are left", 3, () -> Made.all().growTable(1, 191, 9));
        Check.refused("by 192 of 191", Made::all, x -> x.growTable(1, 192, 9));
        PagedMemory full = Made.entries(199, -1);
        Check.due("by 2 of 1", -1, () -> full.growTable(0, 2, 9));
        Check.due("by 1 of 1", 199, () -> full.growTable(0, 1, 9));
        Check.due("the last of all", 9, () -> full.get(0, 199));
        Check.due("by 0 of 0", 200, () -> full.growTable(0, 0, 9));
        Check.due("by 1 of 0", -1, () -> full.growTable(0, 1, 9));
    }

    private static void fillTableFromAnIndexOn() {
        Check.sentence("Promise 15: n entries from an index on become a reference");
        PagedMemory x = Made.all();
        Check.passes(x, "2 from 1 on", () -> x.fillTable(1, 1, 9, 2));
        entriesAre(x, 1, 100, 9, 9);
        Check.passes(x, "1 from 0 on", () -> x.fillTable(1, 0, -1, 1));
        entriesAre(x, 1, -1, 9, 9);
        Check.passes(x, "0 from 0 on", () -> x.fillTable(1, 0, 7, 0));
        entriesAre(x, 1, -1, 9, 9);
        Check.passes(x, "all", () -> x.fillTable(1, 0, MAX, 3));
        entriesAre(x, 1, MAX, MAX, MAX);
        entriesAre(x, 0, 0, 1, 2, 3);
        entriesAre(x, 2, 200, 201);
    }

    private static void fillTableOfNoTable() {
        Check.sentence("Promise 15: IllegalArgumentException: there is no such table");
        Check.passes("fillTable of 2", () -> Made.all().fillTable(2, 0, 9, 1));
        for (int none : NO_TABLE) {
            illegal("fillTable of " + none, x -> x.fillTable(none, 0, 9, 1));
            illegal("fillTable of " + none + ", of 0", x -> x.fillTable(none, 0, 9, 0));
        }
        Check.lastOfAll(5, "fillTable of table ", (x, k) -> x.fillTable(k, 0, 9, 1));
    }

    private static void fillTableOfNoReference() {
        Check.sentence("Promise 15: IllegalArgumentException: reference is below -1");
        for (int reference : new int[] {-1, 0, MAX}) {
            Check.passes("fillTable with " + reference, () -> Made.all().fillTable(0, 0, reference, 1));
        }
        for (int none : NO_REFERENCE) {
            illegal("fillTable with " + none, x -> x.fillTable(0, 0, none, 1));
            illegal("fillTable with " + none + ", of 0", x -> x.fillTable(0, 0, none, 0));
        }
    }

    private static void copyTableFromTheOther() {
        Check.sentence("Promise 16: n entries from an index of the other table (or the same) on come to an index");
        PagedMemory x = Made.all();
        Check.passes(x, "the last 2 of 1 to the end of 0", () -> x.copyTable(0, 1, 2, 1, 2));
        entriesAre(x, 0, 0, 1, 101, 102);
        entriesAre(x, 1, 100, 101, 102);
        Check.passes(x, "3 of 0 to all of 1", () -> x.copyTable(1, 0, 0, 0, 3));
        entriesAre(x, 1, 0, 1, 101);
        Check.passes(x, "0 of 0", () -> x.copyTable(1, 0, 3, 4, 0));
        entriesAre(x, 1, 0, 1, 101);
        Check.passes(x, "1 within 2", () -> x.copyTable(2, 2, 1, 0, 1));
        entriesAre(x, 2, 200, 200);
    }

    private static void copyTableOfNoTable() {
        Check.sentence("Promise 16: IllegalArgumentException: there is no such table");
        Check.passes("copyTable of 2", () -> Made.all().copyTable(2, 2, 0, 1, 1));
        for (int none : NO_TABLE) {
            illegal("copyTable to " + none, x -> x.copyTable(none, 0, 0, 0, 1));
            illegal("copyTable from " + none, x -> x.copyTable(0, none, 0, 0, 1));
            illegal("copyTable to and from " + none + ", of 0", x -> x.copyTable(none, none, 0, 0, 0));
        }
        Check.lastOfAll(5, "copyTable to table ", (x, k) -> x.copyTable(k, 5, 0, 0, 1));
        Check.lastOfAll(5, "copyTable from table ", (x, k) -> x.copyTable(5, k, 0, 0, 1));
    }

    private static void copyTableOfAnotherType() {
        Check.sentence("Promise 16: IllegalArgumentException: the types differ");
        Check.passes("of one type", () -> Made.all().copyTable(0, 1, 0, 0, 1));
        illegal("112 from 111", x -> x.copyTable(0, 2, 0, 0, 1));
        illegal("111 from 112", x -> x.copyTable(2, 0, 0, 0, 1));
        illegal("112 from 111, of 0", x -> x.copyTable(0, 2, 0, 0, 0));
        PagedMemory y = Made.all();
        y.table(111, 1, 1);
        Check.passes(y, "of the other type", () -> y.copyTable(3, 2, 0, 1, 1));
        entriesAre(y, 3, 201);
    }

    private static void initTableFromAPlaceOfASegment() {
        Check.sentence("Promise 17: n references from a place of a segment come to an index of a table");
        PagedMemory x = Made.all();
        Check.passes(x, "all of segment 0 to the end of table 0", () -> x.initTable(0, 0, 2, 0, 2));
        entriesAre(x, 0, 0, 1, 901, 902);
        Check.passes(x, "the last of segment 0 to the start of table 2", () -> x.initTable(2, 0, 0, 1, 1));
        entriesAre(x, 2, 902, 201);
        Check.passes(x, "none of segment 1", () -> x.initTable(1, 1, 0, 0, 0));
        entriesAre(x, 1, 100, 101, 102);
        Check.passes(x, "segment 1 to the end of table 1", () -> x.initTable(1, 1, 2, 0, 1));
        entriesAre(x, 1, 100, 101, 911);
        Check.due("the segment keeps its references", 2, () -> x.size(6, 0));
    }

    private static void initTableOfNoTable() {
        Check.sentence("Promise 17: IllegalArgumentException: there is no such table");
        Check.passes("initTable of 2", () -> Made.all().initTable(2, 0, 0, 0, 1));
        for (int none : NO_TABLE) {
            illegal("initTable of " + none, x -> x.initTable(none, 0, 0, 0, 1));
            illegal("initTable of " + none + ", of 0", x -> x.initTable(none, 0, 0, 0, 0));
        }
        Check.lastOfAll(5, "initTable of table ", (x, k) -> x.initTable(k, 0, 0, 0, 1));
    }

    private static void initTableOfNoSegment() {
        Check.sentence("Promise 17: IllegalArgumentException: there is no such segment");
        Check.passes("initTable from 1", () -> Made.all().initTable(0, 1, 0, 0, 1));
        for (int none : NO_SEGMENT) {
            illegal("initTable from " + none, x -> x.initTable(0, none, 0, 0, 1));
            illegal("initTable from " + none + ", of 0", x -> x.initTable(0, none, 0, 0, 0));
        }
        PagedMemory y = Made.entries(1, 1);
        y.data(1, 1, false);
        Check.illegal(y, "initTable from a segment of bytes", () -> y.initTable(0, 0, 0, 0, 0));
        Check.lastOfAll(23, "initTable from segment ", (x, k) -> x.initTable(0, k, 0, 0, 1));
    }
}
