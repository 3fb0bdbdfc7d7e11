import java.util.ArrayList;
import java.util.Arrays;
import java.util.List;

/**
 * The document once more, in another form than PagedMemory has: every memory, table and segment has
 * an array of its own, and a stretch is taken out before it is put in.
 */
final class Model {
    private static final class Row {
        long[] held = new long[0];
        long limit;
        int type;
        boolean dropped;
    }

    private final List<Row> memories = new ArrayList<>();
    private final List<Row> tables = new ArrayList<>();
    private final List<Row> byteSegments = new ArrayList<>();
    private final List<Row> referenceSegments = new ArrayList<>();
    private int bytesTaken = 0;
    private int referencesTaken = 0;
    private int trap = 0;

    private static Row find(List<Row> rows, int k) {
        if (k < 0 || k >= rows.size()) {
            throw new IllegalArgumentException();
        }
        return rows.get(k);
    }

    private static int total(List<Row> rows) {
        return rows.stream().mapToInt(row -> row.held.length).sum();
    }

    private static void lengthen(Row row, int n, long with) {
        int before = row.held.length;
        row.held = Arrays.copyOf(row.held, before + n);
        Arrays.fill(row.held, before, before + n, with);
    }

    private void within(Row row, long from, long n, int number) {
        if (from + n > row.held.length) {
            trap = number;
            throw new UnsupportedOperationException();
        }
    }

    private void move(Row to, int at, Row from, int place, int n, int number) {
        long count = Integer.toUnsignedLong(n);
        within(from, Integer.toUnsignedLong(place), count, number);
        within(to, Integer.toUnsignedLong(at), count, number);
        long[] taken = Arrays.copyOfRange(from.held, place, place + n);
        for (int i = 0; i < n; i++) {
            to.held[at + i] = taken[i];
        }
    }

    private void spread(Row to, int at, long value, int n, int number) {
        within(to, Integer.toUnsignedLong(at), Integer.toUnsignedLong(n), number);
        for (int i = 0; i < n; i++) {
            to.held[at + i] = value;
        }
    }

    private static void knownReference(int reference) {
        if (reference < -1) {
            throw new IllegalArgumentException();
        }
    }

    int memory(int pages, int limit) {
        if (memories.size() == 6 || pages < 0 || pages > limit || limit > 65536 || pages > size(7, 0)) {
            return -1;
        }
        Row row = new Row();
        row.limit = limit;
        lengthen(row, pages * 256, 0);
        memories.add(row);
        return memories.size() - 1;
    }

    int grow(int memory, int n) {
        if (memory < 0 || memory >= memories.size()) {
            return -1;
        }
        Row row = memories.get(memory);
        int before = row.held.length / 256;
        long more = Integer.toUnsignedLong(n);
        if (before + more > row.limit || more > size(7, 0)) {
            return -1;
        }
        lengthen(row, n * 256, 0);
        return before;
    }

    long load(int memory, int operator, int address, int offset) {
        trap = 0;
        Row row = find(memories, memory);
        int width;
        switch (operator) {
            case 44: case 45: case 48: case 49: width = 1; break;
            case 46: case 47: case 50: case 51: width = 2; break;
            case 40: case 42: case 52: case 53: width = 4; break;
            case 41: case 43: width = 8; break;
            default: throw new IllegalArgumentException();
        }
        long at = Integer.toUnsignedLong(address) + Integer.toUnsignedLong(offset);
        within(row, at, width, 4);
        long number = 0;
        for (int i = width - 1; i >= 0; i--) {
            number = number * 256 + row.held[(int) at + i];
        }
        boolean signed = operator >= 44 && operator % 2 == 0;
        if (signed && row.held[(int) at + width - 1] >= 128) {
            number -= 1L << (8 * width);
        }
        return operator == 44 || operator == 46 ? number & 0xFFFFFFFFL : number;
    }

    void store(int memory, int operator, int address, int offset, long value) {
        trap = 0;
        Row row = find(memories, memory);
        int width;
        switch (operator) {
            case 58: case 60: width = 1; break;
            case 59: case 61: width = 2; break;
            case 54: case 56: case 62: width = 4; break;
            case 55: case 57: width = 8; break;
            default: throw new IllegalArgumentException();
        }
        long at = Integer.toUnsignedLong(address) + Integer.toUnsignedLong(offset);
        within(row, at, width, 4);
        for (int i = 0; i < width; i++) {
            row.held[(int) at + i] = Math.floorMod(value, 256L);
            value >>= 8;
        }
    }

    void fill(int memory, int to, int value, int n) {
        trap = 0;
        spread(find(memories, memory), to, Math.floorMod(value, 256), n, 4);
    }

    void copy(int memory, int to, int from, int n) {
        trap = 0;
        Row row = find(memories, memory);
        move(row, to, row, from, n, 4);
    }

    void init(int memory, int segment, int to, int from, int n) {
        trap = 0;
        move(find(memories, memory), to, find(byteSegments, segment), from, n, 4);
    }

    private static Row open(List<Row> segments, boolean more) {
        if (!more) {
            return segments.size() == 24 ? null : new Row();
        }
        Row latest = segments.isEmpty() ? null : segments.get(segments.size() - 1);
        return latest == null || latest.dropped ? null : latest;
    }

    int data(long bytes, int n, boolean more) {
        Row row = open(byteSegments, more);
        if (n < 0 || n > 8 || row == null || bytesTaken + n > 600) {
            return -1;
        }
        for (int i = 0; i < n; i++) {
            lengthen(row, 1, Math.floorMod(bytes, 256L));
            bytes >>= 8;
        }
        bytesTaken += n;
        if (!more) {
            byteSegments.add(row);
        }
        return byteSegments.size() - 1;
    }

    void drop(int segment, boolean references) {
        Row row = find(references ? referenceSegments : byteSegments, segment);
        row.held = new long[0];
        row.dropped = true;
    }

    int table(int type, int entries, int limit) {
        long most = Integer.toUnsignedLong(limit);
        if (tables.size() == 6 || type < 111 || type > 112 || entries < 0 || entries > most || entries > size(8, 0)) {
            return -1;
        }
        Row row = new Row();
        row.limit = most;
        row.type = type;
        lengthen(row, entries, -1);
        tables.add(row);
        return tables.size() - 1;
    }

    int get(int table, int index) {
        trap = 0;
        Row row = find(tables, table);
        within(row, Integer.toUnsignedLong(index), 1, 5);
        return (int) row.held[index];
    }

    void set(int table, int index, int reference) {
        fillTable(table, index, reference, 1);
    }

    int growTable(int table, int n, int reference) {
        if (table < 0 || table >= tables.size() || reference < -1) {
            return -1;
        }
        Row row = tables.get(table);
        int before = row.held.length;
        long more = Integer.toUnsignedLong(n);
        if (before + more > row.limit || more > size(8, 0)) {
            return -1;
        }
        lengthen(row, n, reference);
        return before;
    }

    void fillTable(int table, int to, int reference, int n) {
        trap = 0;
        Row row = find(tables, table);
        knownReference(reference);
        spread(row, to, reference, n, 5);
    }

    void copyTable(int table, int other, int to, int from, int n) {
        trap = 0;
        Row target = find(tables, table);
        Row source = find(tables, other);
        if (target.type != source.type) {
            throw new IllegalArgumentException();
        }
        move(target, to, source, from, n, 5);
    }

    void initTable(int table, int segment, int to, int from, int n) {
        trap = 0;
        move(find(tables, table), to, find(referenceSegments, segment), from, n, 5);
    }

    int element(int reference, boolean more) {
        Row row = open(referenceSegments, more);
        if (reference < -1 || row == null || referencesTaken == 200) {
            return -1;
        }
        lengthen(row, 1, reference);
        referencesTaken++;
        if (!more) {
            referenceSegments.add(row);
        }
        return referenceSegments.size() - 1;
    }

    int trap() {
        return trap;
    }

    int size(int what, int k) {
        List<List<Row>> all = List.of(memories, tables, byteSegments, referenceSegments);
        if (what == 7) {
            return 48 - total(memories) / 256;
        }
        if (what == 8) {
            return 200 - total(tables);
        }
        if (what >= 9 && what <= 12) {
            return all.get(what - 9).size();
        }
        if (what < 0 || what > 12) {
            return -1;
        }
        List<Row> rows = all.get(what < 2 ? 0 : what < 5 ? 1 : what - 3);
        if (k < 0 || k >= rows.size()) {
            return -1;
        }
        Row row = rows.get(k);
        switch (what) {
            case 0: return row.held.length / 256;
            case 1: case 3: return (int) row.limit;
            case 4: return row.type;
            default: return row.held.length;
        }
    }
}
