import java.util.Arrays;

/**
 * The memories and tables of a machine: bytes in pages that grow to a limit, tables of references
 * likewise, and segments from which both are filled.
 */
public final class PagedMemory {
    private static final int FAILED = -1;
    private static final int NO_REFERENCE = -1;
    private static final long LOW_32_BITS = 0xFFFFFFFFL;

    private static final int PAGE_BYTES = 256;
    private static final int ALL_PAGES = 48;
    private static final int MOST_MEMORIES = 6;
    private static final int HIGHEST_PAGE_LIMIT = 65536;

    private static final int ALL_ENTRIES = 200;
    private static final int MOST_TABLES = 6;
    private static final int TYPE_112 = 112;
    private static final int TYPE_111 = 111;

    private static final int MOST_SEGMENTS = 24;
    private static final int ALL_SEGMENT_BYTES = 600;
    private static final int ALL_SEGMENT_REFERENCES = 200;
    private static final int MOST_BYTES_OF_A_NUMBER = 8;

    private static final int NO_TRAP = 0;
    private static final int MEMORY_TRAP = 4;
    private static final int TABLE_TRAP = 5;

    private static final int FIRST_LOAD = 40;
    private static final int[] LOAD_WIDTHS = {4, 8, 4, 8, 1, 1, 2, 2, 1, 1, 2, 2, 4, 4};
    private static final int FIRST_STORE = 54;
    private static final int[] STORE_WIDTHS = {4, 8, 4, 8, 1, 2, 1, 2, 4};

    private final Layout memories;
    private final int[] memoryLimits;
    private final byte[] memoryBytes;

    private final Layout tables;
    private final int[] tableLimits;
    private final int[] tableTypes;
    private final int[] tableEntries;

    private final Layout byteSegments;
    private final byte[] segmentBytes;

    private final Layout referenceSegments;
    private final int[] segmentReferences;

    private int latestTrap;

    public PagedMemory() {
        memories = new Layout(MOST_MEMORIES, ALL_PAGES * PAGE_BYTES);
        memoryLimits = new int[MOST_MEMORIES];
        memoryBytes = new byte[ALL_PAGES * PAGE_BYTES];
        tables = new Layout(MOST_TABLES, ALL_ENTRIES);
        tableLimits = new int[MOST_TABLES];
        tableTypes = new int[MOST_TABLES];
        tableEntries = new int[ALL_ENTRIES];
        byteSegments = new Layout(MOST_SEGMENTS, ALL_SEGMENT_BYTES);
        segmentBytes = new byte[ALL_SEGMENT_BYTES];
        referenceSegments = new Layout(MOST_SEGMENTS, ALL_SEGMENT_REFERENCES);
        segmentReferences = new int[ALL_SEGMENT_REFERENCES];
        latestTrap = NO_TRAP;
    }

    public int memory(int pages, int limit) {
        if (memories.isFull() || pages < 0 || pages > limit || limit > HIGHEST_PAGE_LIMIT || pages > pagesLeft()) {
            return FAILED;
        }
        // The bytes behind all memories were never written, so they are 0 already.
        int memory = memories.append(pages * PAGE_BYTES);
        memoryLimits[memory] = limit;
        return memory;
    }

    public int grow(int memory, int n) {
        if (!memories.has(memory)) {
            return FAILED;
        }
        int before = pagesOf(memory);
        long added = unsigned(n);
        if (before + added > memoryLimits[memory] || added > pagesLeft()) {
            return FAILED;
        }
        int addedBytes = (int) added * PAGE_BYTES;
        int end = memories.endOf(memory);
        System.arraycopy(memoryBytes, end, memoryBytes, end + addedBytes, memories.used() - end);
        Arrays.fill(memoryBytes, end, end + addedBytes, (byte) 0);
        memories.widen(memory, addedBytes);
        return before;
    }

    public long load(int memory, int operator, int address, int offset)
            throws IllegalArgumentException, UnsupportedOperationException {
        latestTrap = NO_TRAP;
        int width = widthOf(operator, FIRST_LOAD, LOAD_WIDTHS);
        if (!memories.has(memory) || width == 0) {
            throw new IllegalArgumentException("no such memory or load operator");
        }
        int at = placeOf(memories, memory, unsigned(address) + unsigned(offset), width, MEMORY_TRAP);
        long number = 0;
        for (int i = 0; i < width; i++) {
            number |= (memoryBytes[at + i] & 0xFFL) << (8 * i);
        }
        return extended(operator, number);
    }

    public void store(int memory, int operator, int address, int offset, long value)
            throws IllegalArgumentException, UnsupportedOperationException {
        latestTrap = NO_TRAP;
        int width = widthOf(operator, FIRST_STORE, STORE_WIDTHS);
        if (!memories.has(memory) || width == 0) {
            throw new IllegalArgumentException("no such memory or store operator");
        }
        int at = placeOf(memories, memory, unsigned(address) + unsigned(offset), width, MEMORY_TRAP);
        putLowestBytes(value, width, memoryBytes, at);
    }

    public void fill(int memory, int to, int value, int n)
            throws IllegalArgumentException, UnsupportedOperationException {
        latestTrap = NO_TRAP;
        if (!memories.has(memory)) {
            throw new IllegalArgumentException("no such memory");
        }
        int target = placeOf(memories, memory, unsigned(to), unsigned(n), MEMORY_TRAP);
        Arrays.fill(memoryBytes, target, target + n, (byte) value);
    }

    public void copy(int memory, int to, int from, int n)
            throws IllegalArgumentException, UnsupportedOperationException {
        latestTrap = NO_TRAP;
        if (!memories.has(memory)) {
            throw new IllegalArgumentException("no such memory");
        }
        int source = placeOf(memories, memory, unsigned(from), unsigned(n), MEMORY_TRAP);
        int target = placeOf(memories, memory, unsigned(to), unsigned(n), MEMORY_TRAP);
        System.arraycopy(memoryBytes, source, memoryBytes, target, n);
    }

    public void init(int memory, int segment, int to, int from, int n)
            throws IllegalArgumentException, UnsupportedOperationException {
        latestTrap = NO_TRAP;
        if (!memories.has(memory) || !byteSegments.has(segment)) {
            throw new IllegalArgumentException("no such memory or segment");
        }
        int source = placeOf(byteSegments, segment, unsigned(from), unsigned(n), MEMORY_TRAP);
        int target = placeOf(memories, memory, unsigned(to), unsigned(n), MEMORY_TRAP);
        System.arraycopy(segmentBytes, source, memoryBytes, target, n);
    }

    public int data(long bytes, int n, boolean more) {
        if (n < 0 || n > MOST_BYTES_OF_A_NUMBER || !byteSegments.canTake(n, more)) {
            return FAILED;
        }
        putLowestBytes(bytes, n, segmentBytes, byteSegments.used());
        return byteSegments.take(n, more);
    }

    public void drop(int segment, boolean references) throws IllegalArgumentException {
        Layout segments = references ? referenceSegments : byteSegments;
        if (!segments.has(segment)) {
            throw new IllegalArgumentException("no such segment");
        }
        segments.giveUp(segment);
    }

    public int table(int type, int entries, int limit) {
        if (tables.isFull() || (type != TYPE_112 && type != TYPE_111)) {
            return FAILED;
        }
        if (entries < 0 || entries > unsigned(limit) || entries > tables.left()) {
            return FAILED;
        }
        int start = tables.used();
        Arrays.fill(tableEntries, start, start + entries, NO_REFERENCE);
        int table = tables.append(entries);
        tableTypes[table] = type;
        tableLimits[table] = limit;
        return table;
    }

    public int get(int table, int index) throws IllegalArgumentException, UnsupportedOperationException {
        latestTrap = NO_TRAP;
        if (!tables.has(table)) {
            throw new IllegalArgumentException("no such table");
        }
        return tableEntries[placeOf(tables, table, unsigned(index), 1, TABLE_TRAP)];
    }

    public void set(int table, int index, int reference)
            throws IllegalArgumentException, UnsupportedOperationException {
        latestTrap = NO_TRAP;
        if (!tables.has(table) || !isReference(reference)) {
            throw new IllegalArgumentException("no such table or reference");
        }
        tableEntries[placeOf(tables, table, unsigned(index), 1, TABLE_TRAP)] = reference;
    }

    public int growTable(int table, int n, int reference) {
        if (!tables.has(table) || !isReference(reference)) {
            return FAILED;
        }
        int before = tables.lengthOf(table);
        long added = unsigned(n);
        if (before + added > unsigned(tableLimits[table]) || added > tables.left()) {
            return FAILED;
        }
        int end = tables.endOf(table);
        System.arraycopy(tableEntries, end, tableEntries, end + n, tables.used() - end);
        Arrays.fill(tableEntries, end, end + n, reference);
        tables.widen(table, n);
        return before;
    }

    public void fillTable(int table, int to, int reference, int n)
            throws IllegalArgumentException, UnsupportedOperationException {
        latestTrap = NO_TRAP;
        if (!tables.has(table) || !isReference(reference)) {
            throw new IllegalArgumentException("no such table or reference");
        }
        int target = placeOf(tables, table, unsigned(to), unsigned(n), TABLE_TRAP);
        Arrays.fill(tableEntries, target, target + n, reference);
    }

    public void copyTable(int table, int other, int to, int from, int n)
            throws IllegalArgumentException, UnsupportedOperationException {
        latestTrap = NO_TRAP;
        if (!tables.has(table) || !tables.has(other) || tableTypes[table] != tableTypes[other]) {
            throw new IllegalArgumentException("no such table or another type");
        }
        int source = placeOf(tables, other, unsigned(from), unsigned(n), TABLE_TRAP);
        int target = placeOf(tables, table, unsigned(to), unsigned(n), TABLE_TRAP);
        System.arraycopy(tableEntries, source, tableEntries, target, n);
    }

    public void initTable(int table, int segment, int to, int from, int n)
            throws IllegalArgumentException, UnsupportedOperationException {
        latestTrap = NO_TRAP;
        if (!tables.has(table) || !referenceSegments.has(segment)) {
            throw new IllegalArgumentException("no such table or segment");
        }
        int source = placeOf(referenceSegments, segment, unsigned(from), unsigned(n), TABLE_TRAP);
        int target = placeOf(tables, table, unsigned(to), unsigned(n), TABLE_TRAP);
        System.arraycopy(segmentReferences, source, tableEntries, target, n);
    }

    public int element(int reference, boolean more) {
        if (!isReference(reference) || !referenceSegments.canTake(1, more)) {
            return FAILED;
        }
        segmentReferences[referenceSegments.used()] = reference;
        return referenceSegments.take(1, more);
    }

    public int trap() {
        return latestTrap;
    }

    public int size(int what, int k) {
        switch (what) {
            case 0:
                return memories.has(k) ? pagesOf(k) : FAILED;
            case 1:
                return memories.has(k) ? memoryLimits[k] : FAILED;
            case 2:
                return tables.has(k) ? tables.lengthOf(k) : FAILED;
            case 3:
                return tables.has(k) ? tableLimits[k] : FAILED;
            case 4:
                return tables.has(k) ? tableTypes[k] : FAILED;
            case 5:
                return byteSegments.has(k) ? byteSegments.lengthOf(k) : FAILED;
            case 6:
                return referenceSegments.has(k) ? referenceSegments.lengthOf(k) : FAILED;
            case 7:
                return pagesLeft();
            case 8:
                return tables.left();
            case 9:
                return memories.count();
            case 10:
                return tables.count();
            case 11:
                return byteSegments.count();
            case 12:
                return referenceSegments.count();
            default:
                return FAILED;
        }
    }

    private int pagesOf(int memory) {
        return memories.lengthOf(memory) / PAGE_BYTES;
    }

    private int pagesLeft() {
        return memories.left() / PAGE_BYTES;
    }

    /** The index in the common row of what begins at from in the k-th stretch; a TRAP if n of it end beyond. */
    private int placeOf(Layout layout, int k, long from, long n, int trapNumber) {
        if (from + n > layout.lengthOf(k)) {
            latestTrap = trapNumber;
            throw new UnsupportedOperationException("beyond an end");
        }
        return layout.startOf(k) + (int) from;
    }

    private static boolean isReference(int reference) {
        return reference >= NO_REFERENCE;
    }

    private static long unsigned(int bits) {
        return bits & LOW_32_BITS;
    }

    /** How many bytes an operator moves, 0 when it is not one of these. */
    private static int widthOf(int operator, int first, int[] widths) {
        if (operator < first || operator - first >= widths.length) {
            return 0;
        }
        return widths[operator - first];
    }

    /** What a load gives for the bytes that it found, whose number has no sign yet. */
    private static long extended(int operator, long number) {
        switch (operator) {
            case 44:
                return (byte) number & LOW_32_BITS;
            case 46:
                return (short) number & LOW_32_BITS;
            case 48:
                return (byte) number;
            case 50:
                return (short) number;
            case 52:
                return (int) number;
            default:
                return number;
        }
    }

    private static void putLowestBytes(long number, int n, byte[] row, int at) {
        for (int i = 0; i < n; i++) {
            row[at + i] = (byte) (number >>> (8 * i));
        }
    }

    /**
     * Where stretches lie that share one row: one behind the other, in the order in which they were made.
     * All memories share a row (and so do all tables, and the segments of a kind), because only
     * their sum is bounded: a row for each would have to be as long as the common one.
     */
    private static final class Layout {
        private final int room;
        private final int[] starts;
        private final int[] lengths;
        private final boolean[] givenUp;
        private int count;
        private int used;

        Layout(int most, int room) {
            this.room = room;
            starts = new int[most];
            lengths = new int[most];
            givenUp = new boolean[most];
            count = 0;
            used = 0;
        }

        boolean has(int k) {
            return k >= 0 && k < count;
        }

        boolean isFull() {
            return count >= starts.length;
        }

        int count() {
            return count;
        }

        int used() {
            return used;
        }

        int left() {
            return room - used;
        }

        int startOf(int k) {
            return has(k) ? starts[k] : 0;
        }

        int lengthOf(int k) {
            return has(k) ? lengths[k] : FAILED;
        }

        int endOf(int k) {
            return has(k) ? starts[k] + lengths[k] : used;
        }

        /** A new stretch behind the others; the caller has seen that there is room for it. */
        int append(int length) {
            if (isFull()) {
                return FAILED;
            }
            starts[count] = used;
            lengths[count] = length;
            used += length;
            count++;
            return count - 1;
        }

        /** The k-th stretch gets n more; the caller moves what the row holds behind it. */
        void widen(int k, int n) {
            if (!has(k)) {
                return;
            }
            lengths[k] += n;
            for (int later = k + 1; later < count; later++) {
                starts[later] += n;
            }
            used += n;
        }

        /** Whether n places can be had: for a new stretch, or, with more, for the latest one. */
        boolean canTake(int n, boolean more) {
            boolean open = more ? count > 0 && !givenUp[count - 1] : !isFull();
            return open && n <= left();
        }

        /** The places behind all others become the latest stretch's, or a new one's: its number. */
        int take(int n, boolean more) {
            if (!more) {
                return append(n);
            }
            widen(count - 1, n);
            return count - 1;
        }

        /** The stretch has nothing from now on; its places stay used, as a dropped segment's do. */
        void giveUp(int k) {
            if (has(k)) {
                lengths[k] = 0;
                givenUp[k] = true;
            }
        }
    }
}
