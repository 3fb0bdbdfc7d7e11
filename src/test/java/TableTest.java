/** Promises 11 to 17: table, get, set, growTable, fillTable, copyTable, initTable. */
public final class TableTest {
    private static final int MAX = Integer.MAX_VALUE;
    private static final int MIN = Integer.MIN_VALUE;
    /** Pairs of a place and a number whose sum is beyond 20, wrapped around or not. */
    private static final int[][] BEYOND = {{21, 0}, {20, 1}, {0, 21}, {19, 2}, {-1, 0}, {-1, 1}, {0, -1}, {1, -1},
        {-1, -1}, {MIN, MIN}, {MIN, 0}, {MAX, MAX}, {0, MIN}, {-20, 20}};

    public static void main(String[] args) {
        tablesGetNumbers();
        tableRefuses();
        getAndSet();
        getAndSetRefuse();
        growTableKeepsTheOthers();
        growTableRefuses();
        fillTableFills();
        fillTableRefuses();
        copyTableAsIfAllWereTakenFirst();
        copyTableRefuses();
        initTableTakesFromASegment();
        initTableRefuses();
        Check.finish();
    }

    /** Two tables of one type and one of another, 20 entries each; entry i of table t is 100 t + i. */
    private static PagedMemory counted() {
        PagedMemory x = new PagedMemory();
        x.table(112, 20, 30);
        x.table(112, 20, 30);
        x.table(111, 20, 30);
        for (int t = 0; t < 3; t++) {
            for (int i = 0; i < 20; i++) {
                x.set(t, i, 100 * t + i);
            }
        }
        return x;
    }

    private static void unchanged(PagedMemory x, String after) {
        for (int t = 0; t < 3; t++) {
            for (int i = 0; i < 20; i++) {
                int table = t;
                int index = i;
                Check.due(after + ": entry " + i + " of " + t, 100 * t + i, () -> x.get(table, index));
            }
        }
    }

    private static void tablesGetNumbers() {
        PagedMemory x = new PagedMemory();
        Check.due("table(112, 0, 0)", 0, () -> x.table(112, 0, 0));
        Check.due("table(111, 3, 3)", 1, () -> x.table(111, 3, 3));
        Check.due("table(112, 100, -1)", 2, () -> x.table(112, 100, -1));
        Check.due("table(111, 97, MIN)", 3, () -> x.table(111, 97, MIN));
        Check.due("entries left", 0, () -> x.size(8, 0));
        Check.due("table(112, 1, 1) with none left", -1, () -> x.table(112, 1, 1));
        Check.due("table(112, 0, MAX) with none left", 4, () -> x.table(112, 0, MAX));
        Check.due("table(112, 0, 1) with none left", 5, () -> x.table(112, 0, 1));
        Check.due("a seventh", -1, () -> x.table(112, 0, 1));
        Check.due("first entry of 1", -1, () -> x.get(1, 0));
        Check.due("last entry of 3", -1, () -> x.get(3, 96));
        Check.due("limit of 2", -1, () -> x.size(3, 2));
        Check.due("limit of 3", MIN, () -> x.size(3, 3));
        Check.due("type of 1", 111, () -> x.size(4, 1));
        Check.due("type of 2", 112, () -> x.size(4, 2));
    }

    private static void tableRefuses() {
        PagedMemory x = new PagedMemory();
        int[][] wrong = {{113, 0, 1}, {110, 0, 1}, {0, 0, 1}, {-1, 0, 1}, {112, -1, -1}, {112, -1, 5}, {111, MIN, -1},
            {112, 6, 5}, {112, 201, 201}, {112, 201, -1}, {112, MAX, -1}, {111, MAX, MAX}, {112, 1, 0}};
        for (int[] w : wrong) {
            String name = "table(" + w[0] + ", " + w[1] + ", " + w[2] + ")";
            Check.due(name, -1, () -> x.table(w[0], w[1], w[2]));
        }
        Check.due("none was made", 0, () -> x.size(10, 0));
        Check.due("no entry was taken", 200, () -> x.size(8, 0));
        Check.due("table(112, 200, 200)", 0, () -> x.table(112, 200, 200));
    }

    private static void getAndSet() {
        PagedMemory x = counted();
        unchanged(x, "set");
        Check.passes("set MAX", () -> x.set(1, 0, MAX));
        Check.due("get MAX", MAX, () -> x.get(1, 0));
        Check.passes("set none", () -> x.set(1, 19, -1));
        Check.due("get none", -1, () -> x.get(1, 19));
        Check.due("the entry before", 19, () -> x.get(0, 19));
        Check.due("the entry behind", 200, () -> x.get(2, 0));
        Check.due("trap() of none", 0, x::trap);
    }

    private static void getAndSetRefuse() {
        PagedMemory x = counted();
        for (int none : new int[] {-1, 3, 6, MIN, MAX}) {
            Check.illegal(x, "get of table " + none, () -> x.get(none, 0));
            Check.illegal(x, "get beyond of table " + none, () -> x.get(none, -1));
            Check.illegal(x, "set of table " + none, () -> x.set(none, 0, 0));
        }
        for (int index : new int[] {20, 21, 60, 200, -1, MIN, MAX}) {
            Check.traps(x, 5, "get at " + index, () -> x.get(0, index));
            Check.traps(x, 5, "set at " + index, () -> x.set(0, index, 7));
            Check.illegal(x, "set of -2 at " + index, () -> x.set(0, index, -2));
        }
        Check.illegal(x, "set of -2", () -> x.set(0, 0, -2));
        Check.illegal(x, "set of MIN", () -> x.set(0, 0, MIN));
        unchanged(x, "set that traps");
    }

    private static void growTableKeepsTheOthers() {
        PagedMemory x = counted();
        Check.due("grow 0 by 3", 20, () -> x.growTable(0, 3, 7));
        Check.due("grow 1 by 2", 20, () -> x.growTable(1, 2, -1));
        Check.due("grow 2 by 0", 20, () -> x.growTable(2, 0, 9));
        Check.due("grow 2 by 1", 20, () -> x.growTable(2, 1, MAX));
        Check.due("grow 0 by 0", 23, () -> x.growTable(0, 0, 7));
        unchanged(x, "growTable");
        int[][] due = {{0, 20, 7}, {0, 22, 7}, {1, 20, -1}, {1, 21, -1}, {2, 20, MAX}};
        for (int[] d : due) {
            Check.due("new entry " + d[1] + " of " + d[0], d[2], () -> x.get(d[0], d[1]));
        }
        Check.traps(x, 5, "get at 23", () -> x.get(0, 23));
        Check.due("entries left", 134, () -> x.size(8, 0));
        Check.due("a table behind them", 3, () -> x.table(111, 2, 2));
        Check.due("its entry", -1, () -> x.get(3, 0));
    }

    private static void growTableRefuses() {
        PagedMemory x = counted();
        Check.due("a table without a limit", 3, () -> x.table(112, 0, -1));
        for (int none : new int[] {-1, 4, 6, MIN, MAX}) {
            Check.due("growTable of " + none, -1, () -> x.growTable(none, 0, 0));
        }
        Check.due("with -2", -1, () -> x.growTable(0, 1, -2));
        Check.due("by 0 with -2", -1, () -> x.growTable(0, 0, -2));
        Check.due("with MIN", -1, () -> x.growTable(0, 1, MIN));
        Check.due("beyond its limit", -1, () -> x.growTable(0, 11, 1));
        Check.due("more than are left", -1, () -> x.growTable(3, 141, 1));
        for (int n : new int[] {-1, MIN, MAX, -20}) {
            Check.due("by " + n, -1, () -> x.growTable(0, n, 1));
            Check.due("by " + n + " without a limit", -1, () -> x.growTable(3, n, 1));
        }
        Check.due("nothing grew", 20, () -> x.size(2, 0));
        Check.due("nothing was taken", 140, () -> x.size(8, 0));
        unchanged(x, "growTable that fails");
        Check.due("to its limit", 20, () -> x.growTable(0, 10, 1));
        Check.due("all that are left", 0, () -> x.growTable(3, 130, 1));
        Check.due("the last of all", 1, () -> x.get(3, 129));
        Check.due("one more", -1, () -> x.growTable(3, 1, 1));
        Check.due("none more", 130, () -> x.growTable(3, 0, 1));
    }

    private static void fillTableFills() {
        PagedMemory x = counted();
        Check.passes("fill 3 at 5", () -> x.fillTable(1, 5, 77, 3));
        int[] due = {104, 77, 77, 77, 108};
        for (int i = 0; i < 5; i++) {
            int index = 4 + i;
            Check.due("entry " + index, due[i], () -> x.get(1, index));
        }
        Check.passes("fill 0 at the end", () -> x.fillTable(1, 20, 77, 0));
        Check.passes("fill all with none", () -> x.fillTable(1, 0, -1, 20));
        Check.due("first", -1, () -> x.get(1, 0));
        Check.due("last", -1, () -> x.get(1, 19));
        Check.due("the entry before", 19, () -> x.get(0, 19));
        Check.due("the entry behind", 200, () -> x.get(2, 0));
        Check.due("trap() of none", 0, x::trap);
    }

    private static void fillTableRefuses() {
        PagedMemory x = counted();
        for (int none : new int[] {-1, 3, 6, MIN, MAX}) {
            Check.illegal(x, "fillTable of " + none, () -> x.fillTable(none, 0, 0, 0));
        }
        Check.illegal(x, "fillTable with -2", () -> x.fillTable(0, 0, -2, 1));
        Check.illegal(x, "fillTable with MIN, of 0", () -> x.fillTable(0, 0, MIN, 0));
        Check.illegal(x, "fillTable with -2, beyond", () -> x.fillTable(0, 21, -2, 0));
        for (int[] b : BEYOND) {
            Check.traps(x, 5, "fillTable " + b[1] + " at " + b[0], () -> x.fillTable(0, b[0], 7, b[1]));
        }
        unchanged(x, "fillTable that traps");
    }

    private static void copyTableAsIfAllWereTakenFirst() {
        // table, other, to, from, n
        int[][] moves = {{0, 0, 3, 0, 10}, {0, 0, 0, 3, 10}, {0, 0, 1, 0, 19}, {0, 0, 0, 1, 19}, {0, 1, 5, 2, 7},
            {1, 0, 0, 0, 20}, {0, 1, 20, 0, 0}, {0, 1, 0, 20, 0}, {2, 2, 19, 0, 1}, {1, 1, 4, 4, 4}};
        for (int[] m : moves) {
            PagedMemory x = counted();
            String name = "copyTable(" + m[0] + ", " + m[1] + ", " + m[2] + ", " + m[3] + ", " + m[4] + ")";
            Check.passes(name, () -> x.copyTable(m[0], m[1], m[2], m[3], m[4]));
            Check.due(name + ": trap()", 0, x::trap);
            for (int t = 0; t < 3; t++) {
                for (int i = 0; i < 20; i++) {
                    int table = t;
                    int index = i;
                    boolean moved = t == m[0] && i >= m[2] && i < m[2] + m[4];
                    int due = moved ? 100 * m[1] + i - m[2] + m[3] : 100 * t + i;
                    Check.due(name + ": entry " + i + " of " + t, due, () -> x.get(table, index));
                }
            }
        }
    }

    private static void copyTableRefuses() {
        PagedMemory x = counted();
        for (int none : new int[] {-1, 3, 6, MIN, MAX}) {
            Check.illegal(x, "copyTable to table " + none, () -> x.copyTable(none, 0, 0, 0, 0));
            Check.illegal(x, "copyTable from table " + none, () -> x.copyTable(0, none, 0, 0, 0));
            Check.illegal(x, "copyTable in table " + none, () -> x.copyTable(none, none, 0, 0, 0));
        }
        Check.illegal(x, "copyTable to another type", () -> x.copyTable(2, 0, 0, 0, 1));
        Check.illegal(x, "copyTable from another type", () -> x.copyTable(0, 2, 0, 0, 0));
        Check.illegal(x, "copyTable from another type, beyond", () -> x.copyTable(0, 2, 21, 0, 0));
        for (int[] b : BEYOND) {
            Check.traps(x, 5, "copyTable " + b[1] + " to " + b[0], () -> x.copyTable(0, 1, b[0], 3, b[1]));
            Check.traps(x, 5, "copyTable " + b[1] + " from " + b[0], () -> x.copyTable(0, 1, 3, b[0], b[1]));
        }
        unchanged(x, "copyTable that traps");
        x.growTable(0, 5, 50);
        Check.traps(x, 5, "from beyond the shorter one", () -> x.copyTable(0, 1, 0, 20, 1));
        Check.traps(x, 5, "to beyond the shorter one", () -> x.copyTable(1, 0, 20, 0, 1));
        Check.passes("from the end of the longer one", () -> x.copyTable(1, 0, 15, 20, 5));
        Check.due("what came", 50, () -> x.get(1, 19));
    }

    private static void initTableTakesFromASegment() {
        PagedMemory x = counted();
        x.element(900, false);
        x.element(901, false);
        x.element(-1, true);
        x.element(903, true);
        Check.passes("initTable 2 from 1", () -> x.initTable(1, 1, 18, 1, 2));
        Check.due("before it", 117, () -> x.get(1, 17));
        Check.due("its first", -1, () -> x.get(1, 18));
        Check.due("its last", 903, () -> x.get(1, 19));
        Check.due("behind it", 200, () -> x.get(2, 0));
        Check.passes("initTable of another type's table", () -> x.initTable(2, 0, 0, 0, 1));
        Check.due("what came", 900, () -> x.get(2, 0));
        Check.passes("initTable 0 at both ends", () -> x.initTable(0, 1, 20, 3, 0));
        Check.due("trap() of none", 0, x::trap);
        x.drop(1, true);
        Check.passes("initTable 0 of a dropped one", () -> x.initTable(0, 1, 20, 0, 0));
        Check.traps(x, 5, "initTable 1 of a dropped one", () -> x.initTable(0, 1, 0, 0, 1));
        Check.traps(x, 5, "initTable 0 from 1 of a dropped one", () -> x.initTable(0, 1, 0, 1, 0));
    }

    private static void initTableRefuses() {
        PagedMemory x = counted();
        x.element(1, false);
        x.element(2, true);
        x.element(3, false);
        for (int none : new int[] {-1, 3, 6, 24, MIN, MAX}) {
            Check.illegal(x, "initTable of table " + none, () -> x.initTable(none, 0, 0, 0, 0));
            Check.illegal(x, "initTable from segment " + none, () -> x.initTable(0, none, 0, 0, 0));
            Check.illegal(x, "initTable beyond from segment " + none, () -> x.initTable(0, none, -1, -1, 1));
        }
        for (int[] b : BEYOND) {
            Check.traps(x, 5, "initTable " + b[1] + " to " + b[0], () -> x.initTable(0, 0, b[0], 0, b[1]));
            Check.traps(x, 5, "initTable " + b[1] + " from " + b[0], () -> x.initTable(0, 0, 0, b[0], b[1]));
        }
        Check.traps(x, 5, "one beyond the segment", () -> x.initTable(0, 0, 0, 1, 2));
        Check.traps(x, 5, "none beyond the segment", () -> x.initTable(0, 0, 0, 3, 0));
        Check.traps(x, 5, "half beyond the table", () -> x.initTable(0, 0, 19, 0, 2));
        unchanged(x, "initTable that traps");
    }
}
