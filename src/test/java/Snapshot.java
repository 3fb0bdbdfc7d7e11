/**
 * All that the calls can tell of a small object, as a text, the room that is left for segments too.
 * Reading that much changes the object, so it is of no use behind a snapshot.
 */
final class Snapshot {
    private final PagedMemory x;
    private final StringBuilder text = new StringBuilder();

    private Snapshot(PagedMemory x) {
        this.x = x;
    }

    static String of(PagedMemory x) {
        Snapshot snapshot = new Snapshot(x);
        snapshot.sizes();
        snapshot.bytes();
        snapshot.entries();
        snapshot.segments();
        snapshot.room();
        return snapshot.text.toString();
    }

    private void add(long number) {
        text.append(number).append(' ');
    }

    private void sizes() {
        int[] counts = {9, 9, 10, 10, 10, 11, 12};
        for (int what = 0; what < counts.length; what++) {
            int count = x.size(counts[what], 0);
            for (int k = 0; k < count; k++) {
                add(x.size(what, k));
            }
        }
        for (int what = 7; what <= 12; what++) {
            add(x.size(what, 0));
        }
    }

    private void bytes() {
        int memories = x.size(9, 0);
        for (int memory = 0; memory < memories; memory++) {
            int end = 256 * x.size(0, memory);
            for (int at = 0; at < end; at += 8) {
                add(x.load(memory, 41, at, 0));
            }
        }
    }

    private void entries() {
        int tables = x.size(10, 0);
        for (int table = 0; table < tables; table++) {
            int end = x.size(2, table);
            for (int index = 0; index < end; index++) {
                add(x.get(table, index));
            }
        }
    }

    /** What segments hold is seen only where it comes to: the first memory and the first table, if they have room. */
    private void segments() {
        int count = x.size(0, 0) > 0 ? x.size(11, 0) : 0;
        for (int segment = 0; segment < count; segment++) {
            int n = x.size(5, segment);
            for (int at = 0; at < n; at++) {
                x.init(0, segment, 0, at, 1);
                add(x.load(0, 45, 0, 0));
            }
        }
        count = x.size(2, 0) > 0 ? x.size(12, 0) : 0;
        for (int segment = 0; segment < count; segment++) {
            int n = x.size(6, segment);
            for (int at = 0; at < n; at++) {
                x.initTable(0, segment, 0, at, 1);
                add(x.get(0, 0));
            }
        }
    }

    /** The bounds are far beyond the document's, so that a class without its own still ends here. */
    private void room() {
        add(x.data(0, 0, true));
        add(x.data(0, 0, false));
        int bytes = 0;
        while (bytes < 1000 && x.data(0, 8, true) >= 0) {
            bytes += 8;
        }
        while (bytes < 1000 && x.data(0, 1, true) >= 0) {
            bytes++;
        }
        add(bytes);
        add(x.element(0, true));
        add(x.element(0, false));
        int references = 0;
        while (references < 1000 && x.element(0, true) >= 0) {
            references++;
        }
        add(references);
    }
}
