/** Objects that several tests begin with. */
final class Made {
    private Made() {
    }

    static PagedMemory pages(int pages, int limit) {
        PagedMemory x = new PagedMemory();
        x.memory(pages, limit);
        return x;
    }

    static PagedMemory entries(int entries, int limit) {
        PagedMemory x = new PagedMemory();
        x.table(112, entries, limit);
        return x;
    }

    /**
     * Two of everything, and a third table of the other type. Each has another one behind it, so that what
     * reaches beyond its end would be seen there.
     */
    static PagedMemory all() {
        PagedMemory x = new PagedMemory();
        x.memory(1, 3);
        x.memory(1, 65536);
        for (int at = 0; at < 256; at += 16) {
            x.store(0, 55, at, 0, 0x0101010101010101L * (at + 1));
        }
        x.store(1, 55, 0, 0, 0x7172737475767778L);
        x.store(1, 55, 248, 0, 0x6162636465666768L);
        x.data(0x1817161514131211L, 8, false);
        x.data(0x232221L, 3, false);
        x.table(112, 4, 6);
        x.table(112, 3, -1);
        x.table(111, 2, 2);
        int[] ends = {4, 3, 2};
        for (int table = 0; table < ends.length; table++) {
            for (int index = 0; index < ends[table]; index++) {
                x.set(table, index, 100 * table + index);
            }
        }
        x.element(901, false);
        x.element(902, true);
        x.element(911, false);
        return x;
    }

    /**
     * As many memories, tables and segments as there may be: a page, an entry, a byte, a reference in each.
     * All tables but the last are of one type.
     */
    static PagedMemory full() {
        PagedMemory x = new PagedMemory();
        for (int k = 0; k < 6; k++) {
            x.memory(1, 2);
            x.table(k < 5 ? 112 : 111, 1, 2);
        }
        for (int k = 0; k < 24; k++) {
            x.data(k + 1, 1, false);
            x.element(k + 1, false);
        }
        return x;
    }

    /** A segment with so many bytes, at most eight to a call; byte i is i + 1. */
    static PagedMemory bytes(int bytes) {
        PagedMemory x = pages(1, 1);
        x.data(0, 0, false);
        moreBytes(x, bytes);
        return x;
    }

    static void moreBytes(PagedMemory x, int bytes) {
        for (int at = 0; at < bytes; at += 8) {
            long eight = 0;
            for (int k = 7; k >= 0; k--) {
                eight = eight << 8 | (at + k + 1 & 0xFF);
            }
            x.data(eight, Math.min(8, bytes - at), true);
        }
    }

    /** A segment with so many references (one at least); reference i is i. */
    static PagedMemory references(int references) {
        PagedMemory x = entries(1, 1);
        for (int i = 0; i < references; i++) {
            x.element(i, i > 0);
        }
        return x;
    }

    static PagedMemory segmentsOfBytes(int segments) {
        PagedMemory x = pages(1, 1);
        for (int i = 0; i < segments; i++) {
            x.data(i + 1, 1, false);
        }
        return x;
    }

    static PagedMemory segmentsOfReferences(int segments) {
        PagedMemory x = entries(1, 1);
        for (int i = 0; i < segments; i++) {
            x.element(i + 1, false);
        }
        return x;
    }
}
