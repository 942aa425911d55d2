/** The edges of the terms: calls that are refused, PAGES, AN ENTRY IS ADDED, AN ENTRY IS TAKEN OUT. */
public final class PagesEdgesTest {
    private static final int BAD = PageBuckets.BAD, NO = PageBuckets.NO, FULL = PageBuckets.FULL;
    private static final int LOG = PageBuckets.LOG, NONE = PageBuckets.NONE;
    private static final int MIN = Integer.MIN_VALUE, MAX = Integer.MAX_VALUE;
    private static final int GREATEST_VALUE = 1000000000;
    private static final int THERE = Keys.inBucket(0, 0);
    private static final int NOT_THERE = Keys.inBucket(0, 999);
    private static final Due due = new Due();

    public static void main(String[] args) {
        ofSeveralTheFirst();
        refusedForItsValueChangesNothing();
        refusedInAnOpenGroupChangesNothing();
        refusedWithoutAnOpenGroupChangesNothing();
        refusedByAFullJournalChangesNothing();
        refusedWithoutAFreePageChangesNothing();
        refusedLooksChangeNothing();
        thereAre128Pages();
        firstPagesAre0To63();
        sparePagesAre64To127();
        aPageHasFourCells();
        aKeyIsAnyInt();
        aValueIs0To1000000000();
        noEmptyCellsBetween();
        noPageWithoutEntriesButFirstOnes();
        addedInTheNextCell();
        addedOnANewPage();
        addedOnTheFreePageWithTheLeastNumber();
        takenOutTheLastComesToItsCell();
        takenOutTheLastItself();
        takenOutAPageIsFreeAgain();
        takenOutAFirstPageIsNotFree();
        due.finish();
    }

    /** Bucket 0 has 260 entries: its first page and all 64 spare ones are full. */
    private static Run withoutFreePages() {
        return new Run(due).fill(0, 0, 260);
    }

    // ---- calls that are refused

    private static void ofSeveralTheFirst() {
        due.part("refused: of several the one that stands first here");
        Run run = withoutFreePages();
        run.is(Call.put(NOT_THERE, 1), FULL);
        run.is(Call.put(NOT_THERE, -1), BAD);
        run.fillJournal(THERE);
        run.is(Call.put(NOT_THERE, -1), BAD);
        run.is(Call.put(NOT_THERE, 1), FULL);
        run.is(Call.put(THERE, GREATEST_VALUE + 1), BAD);
        run.is(Call.put(THERE, 1), LOG);
        run.is(Call.put(Keys.inBucket(1, 0), -1), BAD);
        run.is(Call.put(Keys.inBucket(1, 0), 1), LOG);
        run.is(Call.cell(1, 0, 0), NO);
        run.is(Call.cell(1, 0, 2), BAD);
        run.is(Call.cell(1, 0, -1), BAD);
        run.is(Call.cell(1, 4, 0), BAD);
        run.is(Call.cell(1, -1, 0), BAD);
        run.is(Call.cell(-1, 0, 0), BAD);
        run.is(Call.cell(128, 0, 0), BAD);
    }

    /** A kept write, a group of two, a write; 7 entries, one of them on page 64. */
    private static Run withGroups() {
        Run run = new Run(due).fill(0, 0, 4).with(Call.keep());
        return run.with(Call.begin()).fill(0, 4, 6).with(Call.end()).fill(1, 0, 1);
    }

    private static void refusedForItsValueChangesNothing() {
        due.part("refused: put for its value changes nothing");
        for (int value : new int[] {-1, GREATEST_VALUE + 1, MIN, MAX}) {
            withGroups().changesNothing(Call.put(THERE, value), BAD);
            withGroups().changesNothing(Call.put(NOT_THERE, value), BAD);
        }
        withGroups().with(Call.begin()).changesNothing(Call.put(THERE, -1), BAD);
    }

    private static void refusedInAnOpenGroupChangesNothing() {
        due.part("refused: begin, keep and stop changes nothing, a group is open");
        Run run = withGroups().with(Call.begin()).fill(2, 0, 3);
        run.changesNothing(Call.begin(), NO);
        run.changesNothing(Call.keep(), NO);
        run.changesNothing(Call.stop(-1), BAD);
        Run withoutWrites = withGroups().with(Call.begin());
        withoutWrites.changesNothing(Call.begin(), NO);
        withoutWrites.changesNothing(Call.keep(), NO);
        withoutWrites.changesNothing(Call.stop(MIN), BAD);
    }

    private static void refusedWithoutAnOpenGroupChangesNothing() {
        due.part("refused: end, undo and stop changes nothing, no group is open");
        Run run = withGroups();
        run.changesNothing(Call.end(), NO);
        run.changesNothing(Call.undo(), NO);
        run.changesNothing(Call.stop(-1), BAD);
        Run fresh = new Run(due);
        fresh.changesNothing(Call.end(), NO);
        fresh.changesNothing(Call.undo(), NO);
        fresh.changesNothing(Call.stop(-1), BAD);
    }

    private static void refusedByAFullJournalChangesNothing() {
        due.part("refused: put and remove change nothing, the journal is full");
        Run run = withGroups().fillJournal(THERE);
        run.changesNothing(Call.put(THERE, 7), LOG);
        run.changesNothing(Call.put(NOT_THERE, 7), LOG);
        run.changesNothing(Call.remove(THERE), LOG);
        Run open = withGroups().with(Call.begin()).fillJournal(THERE);
        open.changesNothing(Call.put(THERE, 7), LOG);
        open.changesNothing(Call.remove(THERE), LOG);
    }

    private static void refusedWithoutAFreePageChangesNothing() {
        due.part("refused: put changes nothing, no page is free");
        Run run = withoutFreePages();
        run.changesNothing(Call.put(NOT_THERE, 1), FULL);
        run.with(Call.begin()).changesNothing(Call.put(NOT_THERE, 1), FULL);
    }

    private static void refusedLooksChangeNothing() {
        due.part("refused: looks change nothing");
        Call[] bad = {Call.bucket(4, 0), Call.bucket(0, 3), Call.page(128, 0), Call.page(0, 3), Call.cell(128, 0, 0),
            Call.cell(0, 4, 0), Call.cell(0, 0, 2), Call.entry(-1), Call.count(-1), Call.count(11)};
        Run run = withGroups();
        for (Call call : bad) {
            run.changesNothing(call, BAD);
        }
        run.changesNothing(Call.cell(3, 0, 0), NO);
        run.changesNothing(Call.entry(7), NONE);
    }

    // ---- PAGES

    private static void thereAre128Pages() {
        due.part("PAGES: there are 128");
        Run run = new Run(due);
        for (int what = 0; what < 3; what++) {
            run.is(Call.page(-1, what), BAD);
            run.is(Call.page(0, what), what == 1 ? NONE : 0);
            run.is(Call.page(127, what), what == 0 ? 0 : NONE);
            run.is(Call.page(128, what), BAD);
        }
    }

    private static void firstPagesAre0To63() {
        due.part("PAGES: bucket b has its first page at b, 0 .. 63");
        Run run = new Run(due);
        for (int b = 0; b < 64; b++) {
            run.fill(b, 0, 3);
        }
        for (int b = 0; b < 64; b++) {
            run.is(Call.cell(b, 2, 0), Keys.inBucket(b, 2));
            run.is(Call.bucket(b, 2), b);
            run.is(Call.page(b, 2), b);
        }
        run.is(Call.bucket(64, 2), BAD);
        run.is(Call.page(64, 2), NONE);
        run.is(Call.count(4), 64);
    }

    private static void sparePagesAre64To127() {
        due.part("PAGES: 64 .. 127 are spare, each free or in a chain");
        Run run = new Run(due);
        run.is(Call.count(4), 64);
        run.fill(0, 0, 256);
        run.is(Call.count(4), 1);
        run.is(Call.page(127, 2), NONE);
        run.is(Call.page(126, 1), NONE);
        run.fill(0, 256, 260);
        int[] pages = new int[65];
        for (int i = 1; i < 65; i++) {
            pages[i] = 63 + i;
        }
        run.chain(0, pages);
        run.is(Call.page(64, 0), 4);
        run.is(Call.page(127, 0), 4);
        run.is(Call.cell(127, 3, 1), 259);
        run.is(Call.count(4), 0);
    }

    private static void aPageHasFourCells() {
        due.part("PAGES: a page has 4 cells");
        Run run = new Run(due).fill(2, 0, 4);
        run.is(Call.page(2, 0), 4);
        run.chain(2, 2);
        for (int i = 0; i < 4; i++) {
            run.is(Call.cell(2, i, 1), i);
        }
        run.is(Call.cell(2, 4, 1), BAD);
        run.fill(2, 4, 5);
        run.is(Call.page(2, 0), 4);
        run.is(Call.page(64, 0), 1);
        run.chain(2, 2, 64);
    }

    private static void aKeyIsAnyInt() {
        due.part("PAGES: a key is any int");
        int[] keys = {0, 1, -1, MIN, MAX, BAD, NO, FULL, LOG, NONE};
        for (int key : keys) {
            Run run = new Run(due);
            run.is(Call.get(key), NONE);
            run.is(Call.put(key, 8), 0);
            run.is(Call.put(key, 9), 1);
            run.is(Call.get(key), 9);
            run.with(Call.keep(), Call.put(key, 10), Call.stop(0));
            run.is(Call.entry(0), 9);
            run.is(Call.remove(key), 9);
            run.is(Call.remove(key), NONE);
        }
        Run all = new Run(due);
        for (int key : keys) {
            all.is(Call.put(key, 1), 0);
        }
        all.is(Call.count(0), keys.length);
    }

    private static void aValueIs0To1000000000() {
        due.part("PAGES: a value is 0 .. 1000000000");
        Run run = new Run(due);
        run.is(Call.put(1, 0), 0);
        run.is(Call.get(1), 0);
        run.is(Call.entry(0), 0);
        run.is(Call.put(1, GREATEST_VALUE), 1);
        run.is(Call.get(1), GREATEST_VALUE);
        run.is(Call.put(1, GREATEST_VALUE + 1), BAD);
        run.is(Call.put(1, -1), BAD);
        run.is(Call.put(1, MAX), BAD);
        run.is(Call.put(1, MIN), BAD);
        run.is(Call.remove(1), GREATEST_VALUE);
    }

    private static void noEmptyCellsBetween() {
        due.part("PAGES: entries stand without empty cells between");
        Run run = new Run(due).fill(1, 0, 9).empty(1, 0, 1);
        run.is(Call.page(1, 0), 4);
        run.is(Call.page(64, 0), 4);
        run.chain(1, 1, 64);
        run.entries(8, 1, 2, 3, 4, 5, 6, 7);
        run.empty(1, 5, 6);
        run.is(Call.page(1, 0), 4);
        run.is(Call.page(64, 0), 3);
        run.is(Call.cell(64, 2, 0), Keys.inBucket(1, 6));
        run.is(Call.cell(64, 3, 0), NO);
        run.entries(8, 1, 2, 3, 4, 7, 6);
    }

    private static void noPageWithoutEntriesButFirstOnes() {
        due.part("PAGES: there is no page without entries but first ones");
        Run run = new Run(due).fill(1, 0, 9);
        run.chain(1, 1, 64, 65);
        run.empty(1, 8, 9);
        run.chain(1, 1, 64);
        run.empty(1, 0, 4);
        run.chain(1, 1);
        run.empty(1, 4, 8);
        run.chain(1, 1);
        run.is(Call.page(1, 0), 0);
        run.is(Call.bucket(1, 0), 0);
    }

    // ---- AN ENTRY IS ADDED

    private static void addedInTheNextCell() {
        due.part("ADDED: in the next cell");
        Run run = new Run(due).fill(3, 0, 1);
        run.is(Call.cell(3, 0, 0), Keys.inBucket(3, 0));
        run.is(Call.cell(3, 1, 0), NO);
        run.fill(3, 1, 4);
        run.is(Call.cell(3, 3, 0), Keys.inBucket(3, 3));
        run.empty(3, 3, 4);
        run.is(Call.cell(3, 3, 0), NO);
        run.fill(3, 7, 8);
        run.is(Call.cell(3, 3, 0), Keys.inBucket(3, 7));
        run.is(Call.cell(3, 3, 1), 7);
        run.is(Call.count(4), 64);
    }

    private static void addedOnANewPage() {
        due.part("ADDED: the last page is full, in cell 0 of a new page");
        Run run = new Run(due).fill(3, 0, 4);
        run.is(Call.page(3, 1), NONE);
        run.fill(3, 4, 5);
        run.is(Call.page(3, 1), 64);
        run.is(Call.cell(64, 0, 0), Keys.inBucket(3, 4));
        run.is(Call.cell(64, 1, 0), NO);
        run.fill(3, 5, 8);
        run.is(Call.page(64, 1), NONE);
        run.fill(3, 8, 9);
        run.is(Call.page(64, 1), 65);
        run.is(Call.cell(65, 0, 0), Keys.inBucket(3, 8));
        run.is(Call.cell(65, 1, 0), NO);
        run.is(Call.count(4), 62);
    }

    private static void addedOnTheFreePageWithTheLeastNumber() {
        due.part("ADDED: the free page with the least number");
        Run run = new Run(due).fill(1, 0, 5).fill(2, 0, 5).fill(3, 0, 5);
        run.chain(1, 1, 64);
        run.chain(2, 2, 65);
        run.chain(3, 3, 66);
        run.empty(2, 4, 5).fill(3, 5, 9);
        run.chain(3, 3, 66, 65);
        run.empty(1, 4, 5).fill(2, 4, 5);
        run.chain(2, 2, 64);
        run.fill(1, 4, 5);
        run.chain(1, 1, 67);
        run.empty(3, 8, 9).empty(2, 4, 5).fill(3, 8, 9);
        run.chain(3, 3, 66, 64);
    }

    // ---- AN ENTRY IS TAKEN OUT

    private static void takenOutTheLastComesToItsCell() {
        due.part("TAKEN OUT: the last one of the chain comes to its cell");
        Run run = new Run(due).fill(1, 0, 7).empty(1, 1, 2);
        run.is(Call.cell(1, 1, 0), Keys.inBucket(1, 6));
        run.is(Call.cell(1, 1, 1), 6);
        run.is(Call.cell(64, 2, 0), NO);
        run.entries(0, 6, 2, 3, 4, 5);
        run.empty(1, 4, 5);
        run.entries(0, 6, 2, 3, 5);
        run.empty(1, 0, 1);
        run.entries(5, 6, 2, 3);
        run.chain(1, 1);
        run.is(Call.get(Keys.inBucket(1, 5)), 5);
        run.is(Call.get(Keys.inBucket(1, 0)), NONE);
        Run onOnePage = new Run(due).fill(2, 0, 4).empty(2, 0, 1);
        onOnePage.entries(3, 1, 2);
        onOnePage.empty(2, 3, 4);
        onOnePage.entries(2, 1);
    }

    private static void takenOutTheLastItself() {
        due.part("TAKEN OUT: if it is not that one itself");
        Run run = new Run(due).fill(1, 0, 6).empty(1, 5, 6);
        run.entries(0, 1, 2, 3, 4);
        run.is(Call.cell(64, 1, 1), NO);
        run.empty(1, 4, 5);
        run.entries(0, 1, 2, 3);
        run.empty(1, 3, 4);
        run.entries(0, 1, 2);
        run.empty(1, 0, 1).empty(1, 1, 2);
        run.entries(2);
        run.empty(1, 2, 3);
        run.entries();
        run.is(Call.cell(1, 0, 0), NO);
    }

    private static void takenOutAPageIsFreeAgain() {
        due.part("TAKEN OUT: the last page has none then, it is free again");
        Run run = new Run(due).fill(1, 0, 6).empty(1, 0, 1);
        run.chain(1, 1, 64);
        run.is(Call.count(4), 63);
        run.empty(1, 1, 2);
        run.chain(1, 1);
        run.is(Call.count(4), 64);
        run.is(Call.page(64, 0), 0);
        run.is(Call.page(64, 1), NONE);
        run.is(Call.page(64, 2), NONE);
        run.is(Call.cell(64, 0, 0), NO);
        run.fill(2, 0, 5);
        run.chain(2, 2, 64);
    }

    private static void takenOutAFirstPageIsNotFree() {
        due.part("TAKEN OUT: a first page is not free");
        Run run = new Run(due).fill(1, 0, 1).empty(1, 0, 1);
        run.chain(1, 1);
        run.is(Call.page(1, 0), 0);
        run.is(Call.count(4), 64);
        run.fill(2, 0, 5);
        run.chain(2, 2, 64);
        run.fill(1, 0, 1);
        run.is(Call.cell(1, 0, 1), 0);
        run.is(Call.count(4), 63);
    }
}
