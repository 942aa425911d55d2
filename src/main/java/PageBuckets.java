import java.util.Arrays;

/**
 * A store of keys and values on pages without a directory, with a journal of writes in groups.
 * The store as it was kept last stands beside the one that is in use: what "was never" is taken
 * back by going to the kept one and doing again the writes that stay.
 */
public final class PageBuckets {
    public static final int BAD = -2000000001, NO = -2000000002, FULL = -2000000003, LOG = -2000000004, NONE = -2000000005;

    private static final int GREATEST_VALUE = 1000000000;
    private static final int PAGE_COUNT = 128;
    private static final int FIRST_SPARE = 64;
    private static final int CELLS = 4;
    private static final int FEWEST_BUCKETS = 4;
    private static final int MOST_BUCKETS = 64;
    private static final int HASH_FACTOR = -1640531527;
    private static final int JOURNAL_ROOM = 64;
    // Two chains at most stand aside at once: their first pages, and all spare ones.
    private static final int ASIDE_ROOM = (PAGE_COUNT - FIRST_SPARE + 2) * CELLS;
    private static final int PUT = 0;
    private static final int REMOVE = 1;

    private final Pages current;
    private final Pages kept;
    private final Journal journal;
    private int pagesRead;
    private int writesThatStand;

    public PageBuckets() {
        Aside aside = new Aside();
        current = new Pages(aside);
        kept = new Pages(aside);
        journal = new Journal();
    }

    public int put(int key, int value) {
        if (value < 0 || value > GREATEST_VALUE) {
            return BAD;
        }
        boolean there = current.find(key) != NONE;
        if (!there && !current.hasRoomFor(key)) {
            return FULL;
        }
        if (journal.isFull()) {
            return LOG;
        }
        write(PUT, key, value);
        return there ? 1 : 0;
    }

    public int remove(int key) {
        int cell = current.find(key);
        if (cell == NONE) {
            return NONE;
        }
        if (journal.isFull()) {
            return LOG;
        }
        int value = current.valueIn(cell);
        write(REMOVE, key, value);
        return value;
    }

    public int get(int key) {
        int cell = current.find(key);
        pagesRead += current.pagesLookedAt(key, cell);
        return cell == NONE ? NONE : current.valueIn(cell);
    }

    public int begin() {
        if (journal.isOpen()) {
            return NO;
        }
        journal.openGroup();
        return 0;
    }

    public int end() {
        if (!journal.isOpen()) {
            return NO;
        }
        int writes = journal.openWrites();
        journal.closeGroup();
        return writes;
    }

    public int undo() {
        if (!journal.isOpen()) {
            return NO;
        }
        int never = journal.openWrites();
        journal.dropOpenGroup();
        takeBack(never, journal.writeCount());
        return never;
    }

    public int keep() {
        if (journal.isOpen()) {
            return NO;
        }
        int writes = journal.writeCount();
        keepCurrent();
        return writes;
    }

    public int stop(int n) {
        if (n < 0) {
            return BAD;
        }
        int stay = journal.writesInFirstGroups(n);
        int never = journal.writeCount() - stay;
        takeBack(never, stay);
        keepCurrent();
        return never;
    }

    public int address(int key) {
        return current.addressOf(key);
    }

    public int bucket(int b, int what) {
        if (b < 0 || b >= current.bucketCount()) {
            return BAD;
        }
        switch (what) {
            case 0: return current.entriesInChain(b);
            case 1: return current.pagesInChain(b);
            case 2: return current.lastPage(b);
            default: return BAD;
        }
    }

    public int page(int p, int what) {
        if (!isPage(p)) {
            return BAD;
        }
        switch (what) {
            case 0: return current.entriesOnPage(p);
            case 1: return current.pageBehind(p);
            case 2: return current.bucketOfPage(p);
            default: return BAD;
        }
    }

    public int cell(int p, int i, int what) {
        if (!isPage(p) || i < 0 || i >= CELLS || what < 0 || what > 1) {
            return BAD;
        }
        if (i >= current.entriesOnPage(p)) {
            return NO;
        }
        int cell = p * CELLS + i;
        return what == 0 ? current.keyIn(cell) : current.valueIn(cell);
    }

    public int entry(int i) {
        if (i < 0) {
            return BAD;
        }
        int cell = current.cellOfEntry(i);
        return cell == NONE ? NONE : current.valueIn(cell);
    }

    public int effort() {
        return current.effortForAll();
    }

    public int count(int what) {
        switch (what) {
            case 0: return current.entryCount();
            case 1: return current.bucketCount();
            case 2: return current.levelNumber();
            case 3: return current.splitNumber();
            case 4: return current.freePages();
            case 5: return journal.writeCount();
            case 6: return journal.groupCount();
            case 7: return journal.isOpen() ? 1 : 0;
            case 8: return pagesRead;
            case 9: return writesThatStand;
            case 10: return current.longestChain();
            default: return BAD;
        }
    }

    private static boolean isPage(int p) {
        return p >= 0 && p < PAGE_COUNT;
    }

    private void write(int kind, int key, int value) {
        current.carryOut(kind, key, value);
        journal.note(kind, key, value);
        writesThatStand++;
    }

    /** Brings the store back to what it was behind the first writes of the journal that stay. */
    private void takeBack(int never, int stay) {
        if (never == 0) {
            return;
        }
        writesThatStand -= never;
        current.copyFrom(kept);
        for (int w = 0; w < stay && w < JOURNAL_ROOM; w++) {
            current.carryOut(journal.kindOf(w), journal.keyOf(w), journal.valueOf(w));
        }
    }

    private void keepCurrent() {
        kept.copyFrom(current);
        journal.clear();
    }

    /** Entries that are between two chains while the store grows or shrinks. */
    private static final class Aside {
        final int[] keys = new int[ASIDE_ROOM];
        final int[] values = new int[ASIDE_ROOM];
        int size;

        void push(int key, int value) {
            if (size >= 0 && size < ASIDE_ROOM) {
                keys[size] = key;
                values[size] = value;
                size++;
            }
        }
    }

    /** The writes that were not kept yet, and where their groups end. */
    private static final class Journal {
        private final int[] kinds = new int[JOURNAL_ROOM];
        private final int[] keys = new int[JOURNAL_ROOM];
        private final int[] values = new int[JOURNAL_ROOM];
        private final int[] groupEnds = new int[JOURNAL_ROOM];
        private int writes;
        private int groups;
        private boolean open;
        private int openFrom;

        boolean isFull() {
            return writes >= JOURNAL_ROOM;
        }

        boolean isOpen() {
            return open;
        }

        int writeCount() {
            return writes;
        }

        int groupCount() {
            return groups;
        }

        int openWrites() {
            return open ? writes - openFrom : 0;
        }

        void note(int kind, int key, int value) {
            if (writes < 0 || writes >= JOURNAL_ROOM) {
                return;
            }
            kinds[writes] = kind;
            keys[writes] = key;
            values[writes] = value;
            writes++;
            if (!open) {
                endGroupHere();
            }
        }

        void openGroup() {
            open = true;
            openFrom = writes;
        }

        void closeGroup() {
            if (openWrites() > 0) {
                endGroupHere();
            }
            open = false;
        }

        void dropOpenGroup() {
            if (open) {
                writes = openFrom;
                open = false;
            }
        }

        void clear() {
            writes = 0;
            groups = 0;
            open = false;
        }

        int writesInFirstGroups(int n) {
            int staying = Math.min(n, groups);
            return staying > 0 && staying <= JOURNAL_ROOM ? groupEnds[staying - 1] : 0;
        }

        int kindOf(int w) {
            return isWrite(w) ? kinds[w] : NONE;
        }

        int keyOf(int w) {
            return isWrite(w) ? keys[w] : NONE;
        }

        int valueOf(int w) {
            return isWrite(w) ? values[w] : NONE;
        }

        private boolean isWrite(int w) {
            return w >= 0 && w < writes && w < JOURNAL_ROOM;
        }

        private void endGroupHere() {
            if (groups >= 0 && groups < JOURNAL_ROOM) {
                groupEnds[groups] = writes;
                groups++;
            }
        }
    }

    /** The pages, their chains, and how many buckets there are. A cell's number is page * CELLS + place. */
    private static final class Pages {
        private final int[] keys = new int[PAGE_COUNT * CELLS];
        private final int[] values = new int[PAGE_COUNT * CELLS];
        private final int[] used = new int[PAGE_COUNT];
        private final int[] behind = new int[PAGE_COUNT];
        private final int[] ahead = new int[PAGE_COUNT];
        private final int[] holder = new int[PAGE_COUNT];
        private final int[] last = new int[MOST_BUCKETS];
        private final Aside aside;
        private int level;
        private int split;
        private int entries;

        Pages(Aside aside) {
            this.aside = aside;
            Arrays.fill(behind, NONE);
            Arrays.fill(ahead, NONE);
            Arrays.fill(holder, NONE);
            for (int b = 0; b < MOST_BUCKETS; b++) {
                last[b] = b;
            }
        }

        void copyFrom(Pages other) {
            System.arraycopy(other.keys, 0, keys, 0, keys.length);
            System.arraycopy(other.values, 0, values, 0, values.length);
            System.arraycopy(other.used, 0, used, 0, used.length);
            System.arraycopy(other.behind, 0, behind, 0, behind.length);
            System.arraycopy(other.ahead, 0, ahead, 0, ahead.length);
            System.arraycopy(other.holder, 0, holder, 0, holder.length);
            System.arraycopy(other.last, 0, last, 0, last.length);
            level = other.level;
            split = other.split;
            entries = other.entries;
        }

        // ---- what there is

        int entryCount() {
            return entries;
        }

        int levelNumber() {
            return level;
        }

        int splitNumber() {
            return split;
        }

        int bucketCount() {
            return (FEWEST_BUCKETS << level) + split;
        }

        int addressOf(int key) {
            int hash = key * HASH_FACTOR;
            hash = hash ^ (hash >>> 15);
            int low = hash & ((FEWEST_BUCKETS << level) - 1);
            return low < split ? hash & ((2 * FEWEST_BUCKETS << level) - 1) : low;
        }

        int keyIn(int cell) {
            return cell >= 0 && cell < keys.length ? keys[cell] : NONE;
        }

        int valueIn(int cell) {
            return cell >= 0 && cell < values.length ? values[cell] : NONE;
        }

        int entriesOnPage(int p) {
            return isPage(p) ? used[p] : 0;
        }

        int pageBehind(int p) {
            return isPage(p) ? behind[p] : NONE;
        }

        int bucketOfPage(int p) {
            if (!isPage(p)) {
                return NONE;
            }
            if (p < FIRST_SPARE) {
                return p < bucketCount() ? p : NONE;
            }
            return holder[p];
        }

        int lastPage(int b) {
            return isBucketPlace(b) ? last[b] : NONE;
        }

        int pagesInChain(int b) {
            int pages = 0;
            int page = b;
            while (pages < PAGE_COUNT && isPage(page)) {
                pages++;
                page = behind[page];
            }
            return pages;
        }

        int entriesInChain(int b) {
            // All pages but the last one are full.
            return (pagesInChain(b) - 1) * CELLS + entriesOnPage(lastPage(b));
        }

        int freePages() {
            int free = 0;
            for (int p = FIRST_SPARE; p < PAGE_COUNT; p++) {
                if (holder[p] == NONE) {
                    free++;
                }
            }
            return free;
        }

        int longestChain() {
            int most = 0;
            for (int b = 0; b < bucketCount(); b++) {
                most = Math.max(most, pagesInChain(b));
            }
            return most;
        }

        int effortForAll() {
            int effort = 0;
            for (int b = 0; b < bucketCount(); b++) {
                int page = b;
                for (int looked = 1; looked <= PAGE_COUNT && isPage(page); looked++) {
                    effort += looked * used[page];
                    page = behind[page];
                }
            }
            return effort;
        }

        int cellOfEntry(int i) {
            int left = i;
            for (int b = 0; b < bucketCount(); b++) {
                int page = b;
                for (int step = 0; step < PAGE_COUNT && isPage(page); step++) {
                    if (left < used[page]) {
                        return page * CELLS + left;
                    }
                    left -= used[page];
                    page = behind[page];
                }
            }
            return NONE;
        }

        /** The cell that has the key, or NONE. */
        int find(int key) {
            int page = addressOf(key);
            for (int step = 0; step < PAGE_COUNT && isPage(page); step++) {
                for (int i = 0; i < CELLS && i < used[page]; i++) {
                    if (keys[page * CELLS + i] == key) {
                        return page * CELLS + i;
                    }
                }
                page = behind[page];
            }
            return NONE;
        }

        /** How many pages are looked at until a key is found in that cell, or, if it is NONE, nowhere. */
        int pagesLookedAt(int key, int cell) {
            int page = addressOf(key);
            int looked = 0;
            while (looked < PAGE_COUNT && isPage(page)) {
                looked++;
                if (cell != NONE && page == cell / CELLS) {
                    return looked;
                }
                page = behind[page];
            }
            return looked;
        }

        boolean hasRoomFor(int key) {
            return entriesOnPage(lastPage(addressOf(key))) < CELLS || leastFreePage() != NONE;
        }

        // ---- writes

        void carryOut(int kind, int key, int value) {
            int cell = find(key);
            if (kind == PUT && cell == NONE) {
                append(addressOf(key), key, value);
                if (entries > 3 * bucketCount() && bucketCount() < MOST_BUCKETS) {
                    grow();
                }
            } else if (kind == PUT) {
                setValue(cell, value);
            } else if (cell != NONE) {
                takeOut(addressOf(key), cell);
                if (bucketCount() > FEWEST_BUCKETS && 2 * entries < 3 * bucketCount()) {
                    shrink();
                }
            }
        }

        private void setValue(int cell, int value) {
            if (cell >= 0 && cell < values.length) {
                values[cell] = value;
            }
        }

        private void grow() {
            aside.size = 0;
            setAside(split);
            split++;
            if (split == FEWEST_BUCKETS << level) {
                split = 0;
                level++;
            }
            for (int i = 0; i < aside.size && i < ASIDE_ROOM; i++) {
                append(addressOf(aside.keys[i]), aside.keys[i], aside.values[i]);
            }
        }

        private void shrink() {
            int going = bucketCount() - 1;
            int lower = split == 0 ? level - 1 : level;
            int staying = going - (FEWEST_BUCKETS << lower);
            if (!canJoin(staying, going)) {
                return;
            }
            level = lower;
            split = staying;
            aside.size = 0;
            setAside(staying);
            setAside(going);
            for (int i = 0; i < aside.size && i < ASIDE_ROOM; i++) {
                append(staying, aside.keys[i], aside.values[i]);
            }
        }

        private boolean canJoin(int staying, int going) {
            int spare = pagesInChain(staying) + pagesInChain(going) - 2;
            // All pages but the two last ones are full.
            int together = spare * CELLS + entriesOnPage(lastPage(staying)) + entriesOnPage(lastPage(going));
            int needed = Math.max(0, (together + CELLS - 1) / CELLS - 1);
            return needed <= freePages() + spare;
        }

        /** Empties a chain; its entries stand aside then, behind those that are there. */
        private void setAside(int b) {
            if (!isBucketPlace(b)) {
                return;
            }
            int page = b;
            for (int step = 0; step < PAGE_COUNT && isPage(page); step++) {
                for (int i = 0; i < CELLS && i < used[page]; i++) {
                    aside.push(keys[page * CELLS + i], values[page * CELLS + i]);
                }
                entries -= used[page];
                int next = behind[page];
                clearPage(page);
                page = next;
            }
            last[b] = b;
        }

        private void clearPage(int page) {
            if (isPage(page)) {
                used[page] = 0;
                behind[page] = NONE;
                ahead[page] = NONE;
                holder[page] = NONE;
            }
        }

        private void append(int b, int key, int value) {
            int page = lastPage(b);
            if (entriesOnPage(page) >= CELLS) {
                page = linkNewPage(b, page);
            }
            if (!isPage(page)) {
                return;
            }
            int cell = page * CELLS + used[page];
            if (cell >= 0 && cell < keys.length) {
                keys[cell] = key;
                values[cell] = value;
                used[page]++;
                entries++;
            }
        }

        /** The page that is linked behind the last one of bucket b; NONE if no page is free. */
        private int linkNewPage(int b, int lastOne) {
            int page = leastFreePage();
            if (isPage(page) && isPage(lastOne) && isBucketPlace(b)) {
                behind[lastOne] = page;
                ahead[page] = lastOne;
                holder[page] = b;
                last[b] = page;
            }
            return page;
        }

        private void takeOut(int b, int cell) {
            int page = lastPage(b);
            if (!isPage(page) || cell < 0 || cell >= keys.length) {
                return;
            }
            int lastCell = page * CELLS + used[page] - 1;
            if (lastCell < 0 || lastCell >= keys.length) {
                return;
            }
            keys[cell] = keys[lastCell];
            values[cell] = values[lastCell];
            used[page]--;
            entries--;
            if (used[page] == 0 && page >= FIRST_SPARE) {
                unlinkLast(b, page);
            }
        }

        private void unlinkLast(int b, int page) {
            int before = isPage(page) ? ahead[page] : NONE;
            if (isPage(before) && isBucketPlace(b)) {
                behind[before] = NONE;
                last[b] = before;
                clearPage(page);
            }
        }

        private int leastFreePage() {
            for (int p = FIRST_SPARE; p < PAGE_COUNT; p++) {
                if (holder[p] == NONE) {
                    return p;
                }
            }
            return NONE;
        }

        private static boolean isBucketPlace(int b) {
            return b >= 0 && b < MOST_BUCKETS;
        }
    }
}
