/** The edges that the sentences of promises 1 to 16 name. */
public final class PromisesEdgesTest {
    private static final int BAD = PageBuckets.BAD, NO = PageBuckets.NO, FULL = PageBuckets.FULL;
    private static final int LOG = PageBuckets.LOG, NONE = PageBuckets.NONE;
    private static final int MIN = Integer.MIN_VALUE, MAX = Integer.MAX_VALUE;
    private static final int GREATEST_VALUE = 1000000000;
    private static final int[] WRONG_WHAT = {-1, 3, MIN, MAX, BAD, NONE};
    private static final Due due = new Due();

    public static void main(String[] args) {
        fourBucketsWithoutEntries();
        putItWasNotThereOrItWas();
        putBadValue();
        putFullOnlyIfItIsNotThere();
        putFullOnlyIfTheLastPageIsFull();
        putFullOnlyIfNoPageIsFree();
        putLogAt64Writes();
        removeGivesTheValue();
        removeNoneIsNoWrite();
        removeLogAt64Writes();
        getTheValueOrNone();
        getReadsToThePageWithTheKey();
        getReadsToTheLastPage();
        beginNoIfOneIsOpen();
        endHowManyWrites();
        endNoIfNoneIsOpen();
        undoHowManyWrites();
        undoNoIfNoneIsOpen();
        keepHowManyWrites();
        keepNoIfAGroupIsOpen();
        stopHowManyWereNever();
        stopBadBelow0();
        addressOfAnyKey();
        bucketLooks();
        bucketBadIfThereIsNone();
        bucketBadWhat();
        pageLooks();
        pageNoneBehindIt();
        pageInNoChain();
        pageBad();
        cellLooks();
        cellBad();
        cellNoIfEmpty();
        cellKeysAsBadAndNo();
        entryByBucketsThenChains();
        entryNoneIfNotSoMany();
        entryBadBelow0();
        effortOfNoneOneAndAll();
        countEntriesAndFreePages();
        countPagesReadInAll();
        countWritesThatStand();
        countTheMostPages();
        countBad();
        due.finish();
    }

    private static Run withoutFreePages() {
        return new Run(due).fill(0, 0, 260);
    }

    // ---- promise 1

    private static void fourBucketsWithoutEntries() {
        due.part("1: four buckets without entries");
        new Run(due).fill(0, 0, 20);
        Run run = new Run(due);
        run.counts(0, 4, 0, 0, 64, 0, 0, 0, 0, 0, 1);
        for (int b = 0; b < 4; b++) {
            run.is(Call.bucket(b, 0), 0);
            run.chain(b, b);
        }
        run.is(Call.bucket(4, 0), BAD);
        run.entries();
        run.is(Call.effort(), 0);
    }

    // ---- promise 2

    private static void putItWasNotThereOrItWas() {
        due.part("2: 0, it was not there; 1, it was");
        Run run = new Run(due);
        run.is(Call.put(7, 1), 0);
        run.is(Call.put(7, 1), 1);
        run.is(Call.put(7, 0), 1);
        run.with(Call.remove(7));
        run.is(Call.put(7, 1), 0);
        run.with(Call.keep(), Call.begin(), Call.remove(7));
        run.is(Call.put(7, 2), 0);
        run.with(Call.undo());
        run.is(Call.put(7, 2), 1);
        run.is(Call.put(8, 2), 0);
        run.with(Call.stop(0));
        run.is(Call.put(8, 2), 0);
    }

    private static void putBadValue() {
        due.part("2: BAD, the value");
        for (int value : new int[] {-1, GREATEST_VALUE + 1, MIN, MAX, BAD, NONE}) {
            Run run = new Run(due);
            run.is(Call.put(5, value), BAD);
            run.is(Call.get(5), NONE);
            run.is(Call.put(5, 0), 0);
            run.is(Call.put(5, value), BAD);
            run.is(Call.get(5), 0);
            run.is(Call.count(5), 1);
        }
        Run run = new Run(due);
        run.is(Call.put(5, GREATEST_VALUE), 0);
        run.is(Call.put(5, 0), 1);
        run.is(Call.put(5, GREATEST_VALUE), 1);
        run.is(Call.get(5), GREATEST_VALUE);
    }

    private static void putFullOnlyIfItIsNotThere() {
        due.part("2: FULL, it is not there");
        Run run = withoutFreePages();
        run.is(Call.put(Keys.inBucket(0, 260), 1), FULL);
        run.is(Call.put(Keys.inBucket(0, 259), 1), 1);
        run.is(Call.put(Keys.inBucket(0, 0), 1), 1);
        run.is(Call.get(Keys.inBucket(0, 260)), NONE);
        run.is(Call.count(0), 260);
    }

    private static void putFullOnlyIfTheLastPageIsFull() {
        due.part("2: FULL, its ADDRESS's last page is full");
        Run run = new Run(due).fill(0, 0, 257);
        run.is(Call.count(4), 0);
        run.fill(0, 257, 260);
        run.is(Call.put(Keys.inBucket(0, 260), 1), FULL);
        run.fill(1, 0, 4);
        run.is(Call.put(Keys.inBucket(1, 4), 1), FULL);
        run.fill(63, 0, 1);
        run.empty(1, 0, 1);
        run.is(Call.put(Keys.inBucket(1, 4), 1), 0);
        run.is(Call.put(Keys.inBucket(1, 5), 1), FULL);
        run.empty(0, 259, 260);
        run.is(Call.put(Keys.inBucket(0, 260), 1), 0);
        run.is(Call.put(Keys.inBucket(0, 261), 1), FULL);
    }

    private static void putFullOnlyIfNoPageIsFree() {
        due.part("2: FULL, no page is FREE");
        Run run = new Run(due).fill(1, 0, 4).fill(0, 0, 256);
        run.is(Call.count(4), 1);
        run.is(Call.put(Keys.inBucket(1, 4), 4), 0);
        run.is(Call.count(4), 0);
        run.is(Call.put(Keys.inBucket(0, 256), 1), FULL);
        run.is(Call.remove(Keys.inBucket(1, 0)), 0);
        run.is(Call.count(4), 1);
        run.is(Call.put(Keys.inBucket(0, 256), 1), 0);
        run.is(Call.put(Keys.inBucket(1, 0), 1), FULL);
        run.is(Call.bucket(0, 2), 127);
    }

    private static void putLogAt64Writes() {
        due.part("2: LOG, the journal has 64 writes");
        Run run = new Run(due).fill(0, 0, 63);
        run.is(Call.count(5), 63);
        run.is(Call.put(Keys.inBucket(0, 63), 63), 0);
        run.is(Call.put(Keys.inBucket(0, 64), 64), LOG);
        run.is(Call.put(Keys.inBucket(0, 0), 64), LOG);
        run.is(Call.get(Keys.inBucket(0, 0)), 0);
        run.is(Call.count(0), 64);
        run.with(Call.keep());
        run.is(Call.put(Keys.inBucket(0, 64), 64), 0);
    }

    // ---- promise 3

    private static void removeGivesTheValue() {
        due.part("3: the value of a key, which goes");
        Run run = new Run(due).with(Call.put(5, 0), Call.put(6, GREATEST_VALUE));
        run.is(Call.remove(5), 0);
        run.is(Call.get(5), NONE);
        run.is(Call.remove(6), GREATEST_VALUE);
        run.is(Call.count(0), 0);
        run.is(Call.remove(6), NONE);
    }

    private static void removeNoneIsNoWrite() {
        due.part("3: NONE is no write, whatever else");
        new Run(due).changesNothing(Call.remove(5), NONE);
        new Run(due).with(Call.put(5, 5), Call.remove(5)).changesNothing(Call.remove(5), NONE);
        new Run(due).fill(0, 0, 9).changesNothing(Call.remove(Keys.inBucket(0, 9)), NONE);
        Run open = new Run(due).with(Call.begin());
        open.changesNothing(Call.remove(5), NONE);
        open.is(Call.end(), 0);
        Run full = new Run(due).with(Call.put(1, 1)).fillJournal(1);
        full.changesNothing(Call.remove(5), NONE);
        withoutFreePages().fillJournal(Keys.inBucket(0, 0)).changesNothing(Call.remove(Keys.inBucket(0, 260)), NONE);
    }

    private static void removeLogAt64Writes() {
        due.part("3: LOG, the journal has 64 writes");
        Run run = new Run(due).fill(0, 0, 63);
        run.is(Call.remove(Keys.inBucket(0, 0)), 0);
        run.is(Call.count(5), 64);
        run.is(Call.remove(Keys.inBucket(0, 1)), LOG);
        run.is(Call.get(Keys.inBucket(0, 1)), 1);
        run.is(Call.count(0), 62);
        run.with(Call.keep());
        run.is(Call.remove(Keys.inBucket(0, 1)), 1);
    }

    // ---- promise 4

    private static void getTheValueOrNone() {
        due.part("4: the value of a key; NONE");
        Run run = new Run(due);
        run.is(Call.get(0), NONE);
        run.with(Call.put(0, 0), Call.put(1, GREATEST_VALUE));
        run.is(Call.get(0), 0);
        run.is(Call.get(1), GREATEST_VALUE);
        run.is(Call.get(2), NONE);
        run.with(Call.remove(0));
        run.is(Call.get(0), NONE);
    }

    private static void getReadsToThePageWithTheKey() {
        due.part("4: pages are READ to that with the key");
        Run run = new Run(due).fill(2, 0, 12);
        int[] at = {0, 3, 4, 7, 8, 11};
        int[] read = {1, 2, 4, 6, 9, 12};
        for (int i = 0; i < at.length; i++) {
            run.is(Call.get(Keys.inBucket(2, at[i])), at[i]);
            run.is(Call.count(8), read[i]);
        }
        Run most = withoutFreePages();
        most.is(Call.get(Keys.inBucket(0, 255)), 255);
        most.is(Call.count(8), 64);
        most.is(Call.get(Keys.inBucket(0, 256)), 256);
        most.is(Call.count(8), 129);
    }

    private static void getReadsToTheLastPage() {
        due.part("4: pages are READ to the last one");
        Run run = new Run(due);
        run.is(Call.get(Keys.inBucket(2, 99)), NONE);
        run.is(Call.count(8), 1);
        run.fill(2, 0, 4);
        run.is(Call.get(Keys.inBucket(2, 99)), NONE);
        run.is(Call.count(8), 2);
        run.fill(2, 4, 5);
        run.is(Call.get(Keys.inBucket(2, 99)), NONE);
        run.is(Call.count(8), 4);
        run.is(Call.get(Keys.inBucket(1, 99)), NONE);
        run.is(Call.count(8), 5);
        run.empty(2, 4, 5);
        run.is(Call.get(Keys.inBucket(2, 4)), NONE);
        run.is(Call.count(8), 6);
        Run most = withoutFreePages();
        most.is(Call.get(Keys.inBucket(0, 260)), NONE);
        most.is(Call.count(8), 65);
    }

    // ---- promises 5 to 9

    private static void beginNoIfOneIsOpen() {
        due.part("5: NO, one is OPEN");
        Run run = new Run(due);
        run.is(Call.begin(), 0);
        run.is(Call.begin(), NO);
        run.with(Call.put(1, 1));
        run.is(Call.begin(), NO);
        run.with(Call.end());
        run.is(Call.begin(), 0);
        run.with(Call.undo());
        run.is(Call.begin(), 0);
        run.with(Call.stop(0));
        run.is(Call.begin(), 0);
        run.with(Call.put(1, 1)).fillJournal(1);
        run.is(Call.begin(), NO);
        run.with(Call.end());
        run.is(Call.begin(), 0);
    }

    private static void endHowManyWrites() {
        due.part("6: how many writes it has");
        Run run = new Run(due).with(Call.begin());
        run.is(Call.end(), 0);
        run.with(Call.put(1, 1), Call.put(2, 2), Call.begin(), Call.put(3, 3));
        run.is(Call.end(), 1);
        run.with(Call.begin(), Call.put(3, 3), Call.remove(3), Call.remove(3), Call.put(3, -1), Call.get(3));
        run.is(Call.end(), 2);
        run.with(Call.keep(), Call.begin()).fillJournal(1);
        run.is(Call.put(1, 1), LOG);
        run.is(Call.end(), 64);
    }

    private static void endNoIfNoneIsOpen() {
        due.part("6: NO, none is OPEN");
        Run run = new Run(due);
        run.is(Call.end(), NO);
        run.with(Call.put(1, 1));
        run.is(Call.end(), NO);
        run.with(Call.begin(), Call.end());
        run.is(Call.end(), NO);
        run.with(Call.begin(), Call.undo());
        run.is(Call.end(), NO);
        run.with(Call.begin(), Call.stop(0));
        run.is(Call.end(), NO);
    }

    private static void undoHowManyWrites() {
        due.part("7: how many writes were never then");
        Run run = new Run(due).with(Call.begin());
        run.is(Call.undo(), 0);
        run.with(Call.put(1, 1), Call.begin(), Call.put(2, 2), Call.remove(9), Call.put(2, -1));
        run.is(Call.undo(), 1);
        run.with(Call.keep(), Call.begin()).fillJournal(1);
        run.is(Call.undo(), 64);
        run.is(Call.get(1), 1);
    }

    private static void undoNoIfNoneIsOpen() {
        due.part("7: NO, none is OPEN");
        Run run = new Run(due);
        run.is(Call.undo(), NO);
        run.with(Call.put(1, 1));
        run.is(Call.undo(), NO);
        run.is(Call.get(1), 1);
        run.with(Call.begin(), Call.put(1, 2), Call.end());
        run.is(Call.undo(), NO);
        run.is(Call.get(1), 2);
        run.with(Call.begin(), Call.stop(9));
        run.is(Call.undo(), NO);
        run.is(Call.get(1), 2);
    }

    private static void keepHowManyWrites() {
        due.part("8: how many writes are kept by this");
        Run run = new Run(due);
        run.is(Call.keep(), 0);
        run.with(Call.put(1, 1));
        run.is(Call.keep(), 1);
        run.is(Call.keep(), 0);
        run.with(Call.begin(), Call.put(1, 2), Call.put(1, 3), Call.end(), Call.remove(1), Call.remove(1));
        run.is(Call.keep(), 3);
        run.with(Call.put(1, 1)).fillJournal(1);
        run.is(Call.keep(), 64);
        run.with(Call.put(1, 1), Call.stop(1));
        run.is(Call.keep(), 0);
    }

    private static void keepNoIfAGroupIsOpen() {
        due.part("8: NO, a group is OPEN");
        Run run = new Run(due).with(Call.put(1, 1), Call.begin());
        run.is(Call.keep(), NO);
        run.with(Call.put(1, 2));
        run.is(Call.keep(), NO);
        run.is(Call.count(5), 2);
        run.with(Call.undo());
        run.is(Call.keep(), 1);
        run.with(Call.begin(), Call.end());
        run.is(Call.keep(), 0);
    }

    private static void stopHowManyWereNever() {
        due.part("9: how many writes of THE JOURNAL were never then");
        Run run = new Run(due);
        run.is(Call.stop(0), 0);
        run.with(Call.put(1, 1), Call.keep(), Call.put(1, 2), Call.begin(), Call.put(1, 3), Call.put(1, 4), Call.undo());
        run.is(Call.stop(0), 1);
        run.with(Call.put(1, 2), Call.put(1, 3));
        run.is(Call.stop(1), 1);
        run.with(Call.put(1, 4), Call.put(1, 5));
        run.is(Call.stop(2), 0);
        run.fillJournal(1);
        run.is(Call.stop(0), 64);
        run.fillJournal(1).with(Call.begin());
        run.is(Call.stop(63), 1);
        run.is(Call.get(1), 0);
    }

    private static void stopBadBelow0() {
        due.part("9: BAD, n is below 0");
        Run run = new Run(due).with(Call.put(1, 1), Call.begin(), Call.put(2, 2));
        run.is(Call.stop(-1), BAD);
        run.is(Call.stop(MIN), BAD);
        run.is(Call.stop(NONE), BAD);
        run.is(Call.count(5), 2);
        run.is(Call.count(7), 1);
        run.is(Call.stop(0), 2);
        run.is(Call.stop(-1), BAD);
        run.is(Call.count(0), 0);
    }

    // ---- promises 10 to 12

    private static void addressOfAnyKey() {
        due.part("10: the address of any key, it be there or not");
        Run run = new Run(due);
        run.changesNothing(Call.address(0), 0);
        run.changesNothing(Call.address(1), 3);
        run.changesNothing(Call.address(-1), 2);
        run.changesNothing(Call.address(MIN), 0);
        run.changesNothing(Call.address(MAX), 2);
        run.with(Call.put(1, 1));
        run.is(Call.address(1), 3);
        run.is(Call.cell(3, 0, 0), 1);
    }

    private static void bucketLooks() {
        due.part("11: entries, pages, last page");
        Run run = new Run(due);
        int[] pages = {1, 1, 2, 2, 3};
        int[] last = {3, 3, 64, 64, 65};
        int[] entries = {0, 4, 5, 8, 9};
        for (int i = 0; i < entries.length; i++) {
            run.fill(3, i == 0 ? 0 : entries[i - 1], entries[i]);
            run.is(Call.bucket(3, 0), entries[i]);
            run.is(Call.bucket(3, 1), pages[i]);
            run.is(Call.bucket(3, 2), last[i]);
        }
        Run most = withoutFreePages();
        most.is(Call.bucket(0, 0), 260);
        most.is(Call.bucket(0, 1), 65);
        most.is(Call.bucket(0, 2), 127);
        most.is(Call.bucket(63, 0), 0);
        most.is(Call.bucket(63, 1), 1);
        most.is(Call.bucket(63, 2), 63);
    }

    private static void bucketBadIfThereIsNone() {
        due.part("11: BAD, there is no such bucket");
        for (int what = 0; what < 3; what++) {
            Run run = new Run(due);
            run.is(Call.bucket(-1, what), BAD);
            run.is(Call.bucket(MIN, what), BAD);
            run.is(Call.bucket(MAX, what), BAD);
            run.is(Call.bucket(3, what), new int[] {0, 1, 3}[what]);
            run.is(Call.bucket(4, what), BAD);
            run.fill(0, 0, 13);
            run.is(Call.bucket(4, what), new int[] {0, 1, 4}[what]);
            run.is(Call.bucket(5, what), BAD);
            run.empty(0, 0, 6);
            run.is(Call.bucket(4, what), BAD);
            run.with(Call.stop(13));
            run.is(Call.bucket(4, what), new int[] {0, 1, 4}[what]);
            run.fill(0, 13, 190);
            run.is(Call.bucket(63, what), new int[] {0, 1, 63}[what]);
            run.is(Call.bucket(64, what), BAD);
            run.is(Call.bucket(127, what), BAD);
            run.is(Call.bucket(128, what), BAD);
        }
    }

    private static void bucketBadWhat() {
        due.part("11: BAD, what");
        Run run = new Run(due).fill(0, 0, 5);
        for (int what : WRONG_WHAT) {
            run.is(Call.bucket(0, what), BAD);
            run.is(Call.bucket(3, what), BAD);
            run.is(Call.bucket(4, what), BAD);
        }
    }

    private static void pageLooks() {
        due.part("12: entries of a page");
        Run run = new Run(due);
        run.is(Call.page(3, 0), 0);
        run.is(Call.page(64, 0), 0);
        run.fill(3, 0, 1);
        run.is(Call.page(3, 0), 1);
        run.fill(3, 1, 4);
        run.is(Call.page(3, 0), 4);
        run.is(Call.page(64, 0), 0);
        run.fill(3, 4, 5);
        run.is(Call.page(3, 0), 4);
        run.is(Call.page(64, 0), 1);
    }

    private static void pageNoneBehindIt() {
        due.part("12: the page linked behind it (NONE)");
        Run run = new Run(due).fill(3, 0, 4);
        run.is(Call.page(3, 1), NONE);
        run.is(Call.page(0, 1), NONE);
        run.is(Call.page(63, 1), NONE);
        run.is(Call.page(64, 1), NONE);
        run.is(Call.page(127, 1), NONE);
        run.fill(3, 4, 9);
        run.is(Call.page(3, 1), 64);
        run.is(Call.page(64, 1), 65);
        run.is(Call.page(65, 1), NONE);
        run.empty(3, 8, 9);
        run.is(Call.page(64, 1), NONE);
    }

    private static void pageInNoChain() {
        due.part("12: NONE, it is FREE, or FIRST of no bucket that there is");
        Run run = new Run(due);
        run.is(Call.page(3, 2), 3);
        run.is(Call.page(4, 2), NONE);
        run.is(Call.page(63, 2), NONE);
        run.is(Call.page(64, 2), NONE);
        run.is(Call.page(127, 2), NONE);
        run.fill(0, 0, 13);
        run.is(Call.page(4, 2), 4);
        run.is(Call.page(5, 2), NONE);
        run.is(Call.page(64, 2), 0);
        run.is(Call.page(66, 2), 0);
        run.is(Call.page(67, 2), NONE);
        run.empty(0, 0, 6);
        run.is(Call.page(4, 2), NONE);
        run.is(Call.page(64, 2), 0);
        run.is(Call.page(65, 2), NONE);
    }

    private static void pageBad() {
        due.part("12: BAD, not 0 .. 127, what");
        Run run = new Run(due).fill(0, 0, 5);
        for (int p : new int[] {-1, 128, MIN, MAX, NONE}) {
            for (int what = 0; what < 3; what++) {
                run.is(Call.page(p, what), BAD);
            }
            run.is(Call.page(p, 3), BAD);
        }
        for (int what : WRONG_WHAT) {
            run.is(Call.page(0, what), BAD);
            run.is(Call.page(63, what), BAD);
            run.is(Call.page(64, what), BAD);
            run.is(Call.page(127, what), BAD);
        }
    }

    // ---- promises 13 and 14

    private static void cellLooks() {
        due.part("13: the key, the value");
        Run run = new Run(due).fill(3, 10, 15);
        for (int i = 0; i < 4; i++) {
            run.is(Call.cell(3, i, 0), Keys.inBucket(3, 10 + i));
            run.is(Call.cell(3, i, 1), 10 + i);
        }
        run.is(Call.cell(64, 0, 0), Keys.inBucket(3, 14));
        run.is(Call.cell(64, 0, 1), 14);
        Run most = withoutFreePages();
        most.is(Call.cell(0, 0, 1), 0);
        most.is(Call.cell(127, 3, 0), Keys.inBucket(0, 259));
        most.is(Call.cell(127, 3, 1), 259);
    }

    private static void cellBad() {
        due.part("13: BAD, page, cell (0 .. 3), what");
        Run run = new Run(due).fill(0, 0, 4);
        for (int p : new int[] {-1, 128, MIN, MAX, 1 << 30}) {
            run.is(Call.cell(p, 0, 0), BAD);
            run.is(Call.cell(p, 3, 1), BAD);
        }
        for (int i : new int[] {-1, 4, MIN, MAX}) {
            run.is(Call.cell(0, i, 0), BAD);
            run.is(Call.cell(1, i, 1), BAD);
            run.is(Call.cell(127, i, 1), BAD);
        }
        for (int what : new int[] {-1, 2, MIN, MAX}) {
            run.is(Call.cell(0, 0, what), BAD);
            run.is(Call.cell(1, 0, what), BAD);
            run.is(Call.cell(127, 3, what), BAD);
        }
    }

    private static void cellNoIfEmpty() {
        due.part("13: NO, it is empty");
        Run run = new Run(due).fill(0, 0, 3);
        for (int what = 0; what < 2; what++) {
            run.is(Call.cell(0, 3, what), NO);
            run.is(Call.cell(3, 0, what), NO);
            run.is(Call.cell(4, 0, what), NO);
            run.is(Call.cell(63, 3, what), NO);
            run.is(Call.cell(64, 0, what), NO);
            run.is(Call.cell(127, 3, what), NO);
        }
        run.empty(0, 2, 3);
        run.is(Call.cell(0, 2, 0), NO);
        run.empty(0, 0, 2);
        run.is(Call.cell(0, 0, 0), NO);
        run.with(Call.put(Keys.inBucket(0, 0), 0));
        run.is(Call.cell(0, 0, 1), 0);
        run.with(Call.stop(0));
        run.is(Call.cell(0, 0, 1), NO);
    }

    private static void cellKeysAsBadAndNo() {
        due.part("13: a key may be as BAD and NO are");
        Run run = new Run(due).with(Call.put(BAD, 5), Call.put(NO, 6));
        run.is(Call.address(BAD), 2);
        run.is(Call.address(NO), 0);
        run.is(Call.page(2, 0), 1);
        run.is(Call.cell(2, 0, 0), BAD);
        run.is(Call.cell(2, 0, 1), 5);
        run.is(Call.page(0, 0), 1);
        run.is(Call.cell(0, 0, 0), NO);
        run.is(Call.cell(0, 0, 1), 6);
        run.is(Call.get(BAD), 5);
        run.is(Call.get(NO), 6);
    }

    private static void entryByBucketsThenChains() {
        due.part("14: by buckets, then by their chains");
        Run run = new Run(due).fill(3, 30, 35).fill(1, 10, 16).fill(3, 35, 36);
        run.entries(10, 11, 12, 13, 14, 15, 30, 31, 32, 33, 34, 35);
        run.fill(0, 0, 1);
        run.is(Call.count(1), 5);
        run.entries(0, 10, 11, 12, 13, 14, 15, 30, 31, 32, 33, 34, 35);
    }

    private static void entryNoneIfNotSoMany() {
        due.part("14: NONE, there are not so many");
        Run run = new Run(due);
        run.is(Call.entry(0), NONE);
        run.is(Call.entry(MAX), NONE);
        run.fill(3, 0, 1);
        run.is(Call.entry(0), 0);
        run.is(Call.entry(1), NONE);
        run.empty(3, 0, 1);
        run.is(Call.entry(0), NONE);
        Run most = withoutFreePages();
        most.is(Call.entry(259), 259);
        most.is(Call.entry(260), NONE);
        most.is(Call.entry(MAX), NONE);
    }

    private static void entryBadBelow0() {
        due.part("14: BAD, i is below 0");
        Run run = new Run(due);
        run.is(Call.entry(-1), BAD);
        run.is(Call.entry(MIN), BAD);
        run.fill(0, 0, 5);
        run.is(Call.entry(-1), BAD);
        run.is(Call.entry(MIN), BAD);
        run.is(Call.entry(NONE), BAD);
    }

    // ---- promises 15 and 16

    private static void effortOfNoneOneAndAll() {
        due.part("15: effort");
        Run run = new Run(due);
        run.is(Call.effort(), 0);
        run.fill(1, 0, 1);
        run.is(Call.effort(), 1);
        run.fill(1, 1, 4);
        run.is(Call.effort(), 4);
        run.fill(1, 4, 5);
        run.is(Call.effort(), 6);
        run.fill(2, 0, 4);
        run.is(Call.effort(), 10);
        run.fill(1, 5, 8);
        run.is(Call.effort(), 16);
        run.with(Call.stop(0));
        run.is(Call.effort(), 0);
        Run most = withoutFreePages();
        most.is(Call.effort(), 4 * 65 * 66 / 2);
        most.is(Call.count(8), 0);
    }

    private static void countEntriesAndFreePages() {
        due.part("16: 0 ENTRIES, 4 FREE pages");
        Run run = withoutFreePages();
        run.is(Call.count(0), 260);
        run.is(Call.count(4), 0);
        run.empty(0, 259, 260);
        run.is(Call.count(0), 259);
        run.is(Call.count(4), 0);
        run.empty(0, 256, 259);
        run.is(Call.count(4), 1);
        Run most = new Run(due);
        for (int b = 0; b < 64; b++) {
            most.fill(b, 0, 5);
        }
        most.is(Call.count(0), 320);
        most.is(Call.count(4), 0);
        most.fill(63, 5, 6);
        most.is(Call.count(0), 321);
    }

    private static void countPagesReadInAll() {
        due.part("16: 8 pages READ in all, by get alone");
        Run run = new Run(due).fill(0, 0, 5);
        run.with(Call.put(Keys.inBucket(0, 0), 1), Call.remove(Keys.inBucket(0, 4)), Call.remove(Keys.inBucket(0, 9)));
        run.with(Call.entry(3), Call.effort(), Call.cell(0, 0, 0), Call.bucket(0, 0), Call.page(0, 0));
        run.is(Call.count(8), 0);
        run.with(Call.begin(), Call.get(Keys.inBucket(0, 0)), Call.undo());
        run.is(Call.count(8), 1);
        run.with(Call.keep(), Call.get(Keys.inBucket(0, 0)), Call.stop(0));
        run.is(Call.count(8), 2);
    }

    private static void countWritesThatStand() {
        due.part("16: 9 writes that stand, not taken back by stop or undo");
        Run run = new Run(due);
        run.is(Call.count(9), 0);
        run.with(Call.put(1, 1), Call.put(1, 1), Call.put(1, -1), Call.remove(2));
        run.is(Call.count(9), 2);
        run.with(Call.keep(), Call.remove(1));
        run.is(Call.count(9), 3);
        run.with(Call.begin(), Call.put(2, 2), Call.put(3, 3));
        run.is(Call.count(9), 5);
        run.with(Call.undo());
        run.is(Call.count(9), 3);
        run.with(Call.put(4, 4));
        run.is(Call.count(9), 4);
        run.with(Call.stop(1));
        run.is(Call.count(9), 3);
        run.with(Call.stop(0));
        run.is(Call.count(9), 3);
        for (int i = 0; i < 130; i++) {
            run.with(Call.put(5, i));
            if (i % 64 == 63) {
                run.with(Call.keep());
            }
        }
        run.is(Call.count(9), 133);
    }

    private static void countTheMostPages() {
        due.part("16: 10 the most pages that a chain has");
        Run run = new Run(due);
        run.is(Call.count(10), 1);
        run.fill(3, 0, 4);
        run.is(Call.count(10), 1);
        run.fill(3, 4, 5);
        run.is(Call.count(10), 2);
        run.fill(0, 0, 5);
        run.is(Call.count(10), 2);
        run.empty(0, 0, 1).empty(3, 0, 1);
        run.is(Call.count(10), 1);
        Run most = withoutFreePages();
        most.is(Call.count(10), 65);
        Run last = new Run(due).fill(63, 0, 193);
        last.is(Call.count(10), 49);
    }

    private static void countBad() {
        due.part("16: BAD");
        Run run = new Run(due).fill(0, 0, 5);
        run.is(Call.count(0), 5);
        run.is(Call.count(10), 2);
        for (int what : new int[] {-1, 11, MIN, MAX, BAD, NONE}) {
            run.is(Call.count(what), BAD);
        }
    }
}
