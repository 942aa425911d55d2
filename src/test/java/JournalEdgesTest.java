/** The edges of the terms: THE JOURNAL, GROUPS, keep, stop and undo. */
public final class JournalEdgesTest {
    private static final int NO = PageBuckets.NO, LOG = PageBuckets.LOG, NONE = PageBuckets.NONE;
    private static final Due due = new Due();

    public static void main(String[] args) {
        theJournalHas64AtMost();
        theJournalHasWhatWasNotKept();
        roomBehindKeep();
        roomBehindStop();
        roomBehindUndo();
        aGroupIsAWrite();
        aGroupIsAllFromBeginToEnd();
        aGroupWithoutWritesIsNone();
        anOpenGroupIsNotCounted();
        keepKeepsAll();
        keepOfAnEmptyJournal();
        stopFirstGroupsStay();
        stopAllIfThereAreLess();
        stopAnOpenGroupWasNever();
        stopTheStoreIsAsItWas();
        stopOverGrowingAndShrinking();
        stopWhatStaysIsKept();
        stopEndsTheJournalAndTheGroup();
        stopWithNothingToStop();
        undoWritesWereNever();
        undoOverGrowingAndShrinking();
        undoOfAWholeJournal();
        undoIsNotOpenAnyMore();
        due.finish();
    }

    // ---- THE JOURNAL

    private static void theJournalHas64AtMost() {
        due.part("THE JOURNAL: 64 writes at most");
        Run run = new Run(due).with(Call.put(1, 1)).fillJournal(1);
        run.is(Call.count(5), 64);
        run.is(Call.put(1, 2), LOG);
        run.is(Call.put(2, 2), LOG);
        run.is(Call.remove(1), LOG);
        run.is(Call.count(5), 64);
        Run removes = new Run(due).fill(0, 0, 64).with(Call.keep()).empty(0, 0, 63);
        removes.is(Call.count(5), 63);
        removes.empty(0, 63, 64);
        removes.is(Call.count(5), 64);
        removes.is(Call.put(1, 1), LOG);
        Run groups = new Run(due).with(Call.put(1, 1), Call.begin(), Call.put(1, 2), Call.end(), Call.begin());
        groups.fillJournal(1);
        groups.is(Call.put(1, 2), LOG);
        groups.is(Call.count(5), 64);
        groups.is(Call.end(), 62);
        groups.is(Call.put(1, 2), LOG);
    }

    private static void theJournalHasWhatWasNotKept() {
        due.part("THE JOURNAL: the writes that were not kept yet");
        Run run = new Run(due);
        run.is(Call.count(5), 0);
        run.with(Call.put(1, 1), Call.put(1, -1), Call.remove(2), Call.get(1));
        run.is(Call.count(5), 1);
        run.with(Call.put(1, 1), Call.remove(1));
        run.is(Call.count(5), 3);
        run.with(Call.keep());
        run.is(Call.count(5), 0);
        run.with(Call.put(1, 1));
        run.is(Call.count(5), 1);
    }

    private static void roomBehindKeep() {
        due.part("THE JOURNAL: room again behind keep");
        Run run = new Run(due).with(Call.put(1, 1)).fillJournal(1);
        run.is(Call.keep(), 64);
        run.is(Call.put(1, 3), 1);
        run.fillJournal(1);
        run.is(Call.put(1, 2), LOG);
        run.is(Call.remove(1), LOG);
    }

    private static void roomBehindStop() {
        due.part("THE JOURNAL: room again behind stop");
        Run run = new Run(due).with(Call.put(1, 1)).fillJournal(1);
        run.is(Call.stop(64), 0);
        run.is(Call.put(1, 3), 1);
        run.fillJournal(1);
        run.is(Call.put(1, 2), LOG);
        run.is(Call.stop(0), 64);
        run.is(Call.remove(1), 0);
    }

    private static void roomBehindUndo() {
        due.part("THE JOURNAL: room behind undo for what was never");
        Run run = new Run(due).with(Call.put(1, 1));
        for (int i = 0; i < 60; i++) {
            run.with(Call.put(1, i));
        }
        run.with(Call.begin()).fillJournal(1);
        run.is(Call.put(2, 2), LOG);
        run.is(Call.undo(), 3);
        run.fill(0, 0, 3);
        run.is(Call.put(2, 2), LOG);
        run.is(Call.count(5), 64);
    }

    // ---- GROUPS

    private static void aGroupIsAWrite() {
        due.part("GROUPS: a group is a write");
        Run run = new Run(due).with(Call.put(1, 1));
        run.is(Call.count(6), 1);
        run.with(Call.put(1, 1));
        run.is(Call.count(6), 2);
        run.with(Call.remove(1));
        run.is(Call.count(6), 3);
        run.with(Call.remove(1), Call.put(1, -1));
        run.is(Call.count(6), 3);
        Run most = new Run(due).with(Call.put(1, 1)).fillJournal(1);
        most.is(Call.count(6), 64);
        most.is(Call.stop(63), 1);
    }

    private static void aGroupIsAllFromBeginToEnd() {
        due.part("GROUPS: a group is all writes from begin() to end()");
        Run run = new Run(due).with(Call.put(9, 9), Call.begin(), Call.put(1, 1), Call.put(2, 2), Call.remove(9));
        run.is(Call.end(), 3);
        run.is(Call.count(6), 2);
        run.with(Call.put(3, 3));
        run.is(Call.count(6), 3);
        run.is(Call.stop(1), 4);
        run.is(Call.get(9), 9);
        run.is(Call.get(1), NONE);
        run.is(Call.get(2), NONE);
        Run most = new Run(due).with(Call.begin(), Call.put(1, 1)).fillJournal(1);
        most.is(Call.end(), 64);
        most.is(Call.count(6), 1);
        most.is(Call.stop(1), 0);
        most.is(Call.get(1), 0);
    }

    private static void aGroupWithoutWritesIsNone() {
        due.part("GROUPS: a group without writes is none");
        Call[] none = {Call.begin(), Call.remove(77), Call.put(77, -1), Call.get(1), Call.end()};
        Run run = new Run(due).with(none);
        run.is(Call.count(6), 0);
        run.with(Call.put(1, 1)).with(none).with(none);
        run.is(Call.count(6), 1);
        run.with(Call.begin(), Call.put(2, 2), Call.end()).with(none).with(Call.put(3, 3)).with(none);
        run.is(Call.count(6), 3);
        run.is(Call.count(5), 3);
        run.is(Call.stop(2), 1);
        run.is(Call.get(2), 2);
        run.is(Call.get(3), NONE);
        Run full = new Run(due).with(Call.put(1, 1)).fillJournal(1);
        full.is(Call.begin(), 0);
        full.is(Call.put(1, 1), LOG);
        full.is(Call.end(), 0);
        full.is(Call.count(6), 64);
        full.is(Call.stop(64), 0);
    }

    private static void anOpenGroupIsNotCounted() {
        due.part("GROUPS: one that is begun and not ended is open");
        Run run = new Run(due);
        run.is(Call.count(7), 0);
        run.with(Call.begin());
        run.is(Call.count(7), 1);
        run.is(Call.count(6), 0);
        run.with(Call.put(1, 1), Call.put(2, 2));
        run.is(Call.count(7), 1);
        run.is(Call.count(6), 0);
        run.is(Call.count(5), 2);
        run.with(Call.end());
        run.is(Call.count(7), 0);
        run.is(Call.count(6), 1);
    }

    // ---- keep

    private static void keepKeepsAll() {
        due.part("keep: all in the journal is kept; it is empty then");
        Run run = new Run(due).fill(0, 0, 13).with(Call.begin()).fill(4, 13, 16).with(Call.end()).empty(0, 0, 2);
        Run without = new Run(due).fill(0, 0, 13).with(Call.begin()).fill(4, 13, 16).with(Call.end()).empty(0, 0, 2);
        run.is(Call.keep(), 18);
        run.sameStoreAs(without);
        run.is(Call.count(5), 0);
        run.is(Call.count(6), 0);
        run.is(Call.stop(0), 0);
        run.sameStoreAs(without);
        run.with(Call.begin()).fill(1, 0, 9);
        run.is(Call.undo(), 9);
        run.sameStoreAs(without);
    }

    private static void keepOfAnEmptyJournal() {
        due.part("keep: of an empty journal");
        Run run = new Run(due);
        run.changesNothing(Call.keep(), 0);
        run.fill(0, 0, 5);
        run.is(Call.keep(), 5);
        run.changesNothing(Call.keep(), 0);
        run.with(Call.begin(), Call.put(1, 1), Call.undo());
        run.changesNothing(Call.keep(), 0);
    }

    // ---- stop

    /** Groups of 1, 2, 1 and 3 writes on key 1; its value tells how many writes stay. */
    private static Run withGroups() {
        return new Run(due).with(Call.put(1, 1), Call.begin(), Call.put(1, 2), Call.put(1, 3), Call.end(), Call.put(1, 4),
            Call.begin(), Call.put(1, 5), Call.put(1, 6), Call.put(1, 7), Call.end());
    }

    private static void stopFirstGroupsStay() {
        due.part("stop: the first n groups stay");
        int[] stay = {0, 1, 3, 4, 7};
        for (int n = 0; n < stay.length; n++) {
            Run run = withGroups();
            run.is(Call.stop(n), 7 - stay[n]);
            run.is(Call.get(1), n == 0 ? NONE : stay[n]);
            run.is(Call.count(9), stay[n]);
        }
    }

    private static void stopAllIfThereAreLess() {
        due.part("stop: all, if there are less");
        for (int n : new int[] {4, 5, 64, 65, Integer.MAX_VALUE}) {
            Run run = withGroups();
            run.is(Call.stop(n), 0);
            run.is(Call.get(1), 7);
            run.is(Call.count(9), 7);
            run.is(Call.count(5), 0);
        }
    }

    private static void stopAnOpenGroupWasNever() {
        due.part("stop: an open group was never");
        for (int n : new int[] {4, 5, Integer.MAX_VALUE}) {
            Run run = withGroups().with(Call.begin(), Call.put(1, 8), Call.remove(1));
            run.is(Call.stop(n), 2);
            run.is(Call.get(1), 7);
            run.is(Call.count(9), 7);
        }
        Run less = withGroups().with(Call.begin(), Call.put(1, 8));
        less.is(Call.stop(3), 4);
        less.is(Call.get(1), 4);
        Run alone = new Run(due).with(Call.begin(), Call.put(1, 8));
        alone.is(Call.stop(1), 1);
        alone.is(Call.get(1), NONE);
        Run whole = new Run(due).with(Call.begin(), Call.put(1, 8)).fillJournal(1);
        whole.is(Call.stop(64), 64);
        whole.is(Call.count(0), 0);
    }

    private static void stopTheStoreIsAsItWas() {
        due.part("stop: the store is as it was behind the last write that stays");
        for (int n = 0; n <= 20; n++) {
            Run run = new Run(due).fill(1, 0, 9).with(Call.keep()).empty(1, 0, 2).fill(0, 0, 9).empty(0, 0, 6).fill(2, 0, 3);
            run.with(Call.stop(n));
            Run wanted = new Run(due).fill(1, 0, 9).empty(1, 0, Math.min(n, 2)).fill(0, 0, Math.max(0, Math.min(n - 2, 9)));
            wanted.empty(0, 0, Math.max(0, Math.min(n - 11, 6))).fill(2, 0, Math.max(0, n - 17));
            run.sameStoreAs(wanted);
        }
    }

    private static void stopOverGrowingAndShrinking() {
        due.part("stop: the store is as it was, LEVEL and SPLIT too");
        Run grown = new Run(due).fill(0, 0, 11).fill(4, 11, 12).with(Call.keep()).fill(4, 12, 40);
        grown.is(Call.count(2), 1);
        grown.is(Call.stop(0), 28);
        grown.sameStoreAs(new Run(due).fill(0, 0, 11).fill(4, 11, 12));
        Run between = new Run(due).fill(0, 0, 11).fill(4, 11, 12).with(Call.keep()).fill(4, 12, 40);
        between.is(Call.stop(10), 18);
        between.is(Call.count(1), 8);
        between.sameStoreAs(new Run(due).fill(0, 0, 11).fill(4, 11, 22));
        Run shrunk = new Run(due).fill(0, 0, 20).fill(4, 20, 40).with(Call.keep()).empty(0, 0, 20).empty(4, 20, 40);
        shrunk.is(Call.count(1), 4);
        shrunk.is(Call.stop(0), 40);
        shrunk.is(Call.count(1), 14);
        shrunk.sameStoreAs(new Run(due).fill(0, 0, 20).fill(4, 20, 40));
    }

    private static void stopWhatStaysIsKept() {
        due.part("stop: what stays is kept then");
        Run run = withGroups();
        run.is(Call.stop(2), 4);
        run.is(Call.stop(0), 0);
        run.is(Call.get(1), 3);
        run.with(Call.put(1, 10));
        run.is(Call.stop(0), 1);
        run.is(Call.get(1), 3);
        run.with(Call.begin(), Call.remove(1));
        run.is(Call.undo(), 1);
        run.is(Call.get(1), 3);
        Run all = withGroups();
        all.is(Call.stop(4), 0);
        all.is(Call.stop(0), 0);
        all.is(Call.get(1), 7);
    }

    private static void stopEndsTheJournalAndTheGroup() {
        due.part("stop: the journal is empty, nothing is open");
        for (int n = 0; n < 6; n++) {
            Run run = withGroups().with(Call.begin(), Call.put(1, 8), Call.stop(n));
            run.is(Call.count(5), 0);
            run.is(Call.count(6), 0);
            run.is(Call.count(7), 0);
            run.is(Call.end(), NO);
            run.is(Call.undo(), NO);
            run.is(Call.keep(), 0);
            run.is(Call.begin(), 0);
            run.with(Call.put(1, 9));
            run.is(Call.end(), 1);
            run.is(Call.count(6), 1);
        }
        Run withoutWrites = new Run(due).with(Call.begin());
        withoutWrites.is(Call.stop(0), 0);
        withoutWrites.is(Call.count(7), 0);
        withoutWrites.is(Call.begin(), 0);
    }

    private static void stopWithNothingToStop() {
        due.part("stop: an empty journal");
        Run fresh = new Run(due);
        fresh.changesNothing(Call.stop(0), 0);
        fresh.changesNothing(Call.stop(1), 0);
        fresh.changesNothing(Call.stop(Integer.MAX_VALUE), 0);
        Run kept = withGroups().with(Call.keep());
        kept.changesNothing(Call.stop(0), 0);
        kept.changesNothing(Call.stop(9), 0);
    }

    // ---- undo

    private static void undoWritesWereNever() {
        due.part("undo: the writes of the open group were never");
        Run run = withGroups().with(Call.begin()).fill(0, 0, 5).with(Call.remove(1), Call.put(1, 20));
        run.is(Call.undo(), 7);
        run.sameAs(withGroups());
        Run kept = withGroups().with(Call.keep(), Call.begin(), Call.put(1, 20));
        kept.is(Call.undo(), 1);
        kept.sameAs(withGroups().with(Call.keep()));
        Run fresh = new Run(due).with(Call.begin()).fill(0, 0, 5);
        fresh.is(Call.undo(), 5);
        fresh.sameAs(new Run(due));
        Run withoutWrites = withGroups().with(Call.begin());
        withoutWrites.is(Call.undo(), 0);
        withoutWrites.sameAs(withGroups());
    }

    private static void undoOverGrowingAndShrinking() {
        due.part("undo: over growing and shrinking");
        Run grown = new Run(due).fill(0, 0, 12).with(Call.begin()).fill(4, 12, 30);
        grown.is(Call.count(1), 10);
        grown.is(Call.undo(), 18);
        grown.sameAs(new Run(due).fill(0, 0, 12));
        Run shrunk = new Run(due).fill(0, 0, 30).with(Call.keep()).empty(0, 0, 1).with(Call.begin()).empty(0, 1, 25);
        shrunk.is(Call.count(1), 4);
        shrunk.is(Call.undo(), 24);
        shrunk.sameAs(new Run(due).fill(0, 0, 30).with(Call.keep()).empty(0, 0, 1));
    }

    private static void undoOfAWholeJournal() {
        due.part("undo: a group of 64 writes");
        Run run = new Run(due).with(Call.begin()).fill(0, 0, 64);
        run.is(Call.put(1, 1), LOG);
        run.is(Call.undo(), 64);
        run.sameAs(new Run(due));
        run.is(Call.put(1, 1), 0);
    }

    private static void undoIsNotOpenAnyMore() {
        due.part("undo: it is not open any more");
        Run run = withGroups().with(Call.begin(), Call.put(1, 8), Call.undo());
        run.is(Call.count(7), 0);
        run.is(Call.undo(), NO);
        run.is(Call.end(), NO);
        run.with(Call.put(1, 9));
        run.is(Call.count(6), 5);
        run.is(Call.begin(), 0);
        run.is(Call.end(), 0);
        run.is(Call.keep(), 8);
    }
}
