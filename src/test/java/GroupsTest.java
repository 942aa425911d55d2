/** Promises 5 to 9: begin, end, undo, keep, stop. */
public final class GroupsTest {
    private static final int BAD = PageBuckets.BAD, NO = PageBuckets.NO;
    private static final int LOG = PageBuckets.LOG, NONE = PageBuckets.NONE;
    private static final Due due = new Due();

    public static void main(String[] args) {
        beginAndEnd();
        endWithoutWritesIsNoGroup();
        undoTakesBack();
        undoGivesBackThePlaces();
        keepEmptiesTheJournal();
        aGroupFillsTheJournal();
        stopKeepsTheFirstGroups();
        stopWithAnOpenGroup();
        stopEdges();
        stopBringsBackTheStore();
        stopKeepsWhatStays();
        due.finish();
    }

    private static void beginAndEnd() {
        due.part("promises 5 and 6, begin and end");
        PageBuckets x = new PageBuckets();
        due.is("end()", x.end(), NO);
        due.is("begin()", x.begin(), 0);
        due.is("count(7)", x.count(7), 1);
        due.is("begin()", x.begin(), NO);
        due.is("count(7)", x.count(7), 1);
        x.put(1, 1);
        x.put(1, 2);
        due.is("begin() in a group with writes", x.begin(), NO);
        x.remove(1);
        x.remove(1);
        x.put(1, -1);
        due.is("count(6)", x.count(6), 0);
        due.is("end()", x.end(), 3);
        due.is("count(6)", x.count(6), 1);
        due.is("count(7)", x.count(7), 0);
        due.is("end()", x.end(), NO);
        x.put(3, 3);
        due.is("a write is a group", x.count(6), 2);
        due.is("begin()", x.begin(), 0);
        x.put(4, 4);
        due.is("end() counts its own writes", x.end(), 1);
        due.is("count(6)", x.count(6), 3);
        due.is("count(5)", x.count(5), 5);
    }

    private static void endWithoutWritesIsNoGroup() {
        due.part("promise 6, a group without writes");
        PageBuckets x = new PageBuckets();
        x.put(1, 1);
        x.begin();
        due.is("end()", x.end(), 0);
        due.is("count(6)", x.count(6), 1);
        x.begin();
        x.remove(9);
        x.get(1);
        due.is("end()", x.end(), 0);
        x.put(2, 2);
        x.put(3, 3);
        due.is("count(6)", x.count(6), 3);
        due.is("stop(2)", x.stop(2), 1);
        due.is("get(2)", x.get(2), 2);
        due.is("get(3)", x.get(3), NONE);
    }

    private static void undoTakesBack() {
        due.part("promise 7, undo");
        PageBuckets x = new PageBuckets();
        due.is("undo()", x.undo(), NO);
        x.put(1, 1);
        due.is("undo() of no open group", x.undo(), NO);
        due.is("begin()", x.begin(), 0);
        due.is("undo()", x.undo(), 0);
        due.is("count(7)", x.count(7), 0);
        due.is("get(1)", x.get(1), 1);
        x.begin();
        x.put(1, 5);
        x.put(2, 6);
        x.remove(1);
        due.is("count(9)", x.count(9), 4);
        due.is("undo()", x.undo(), 3);
        due.is("undo()", x.undo(), NO);
        due.is("get(1)", x.get(1), 1);
        due.is("get(2)", x.get(2), NONE);
        due.is("count(5)", x.count(5), 1);
        due.is("count(6)", x.count(6), 1);
        due.is("count(7)", x.count(7), 0);
        due.is("count(9)", x.count(9), 1);
        x.put(3, 3);
        due.is("a write is a group again", x.count(6), 2);
        due.is("keep()", x.keep(), 2);
    }

    private static void undoGivesBackThePlaces() {
        due.part("promise 7, the store behind undo");
        PageBuckets x = new PageBuckets();
        for (int i = 0; i < 12; i++) {
            x.put(Keys.inBucket(i % 2 == 0 ? 0 : 4, i), i);
        }
        x.keep();
        x.put(Keys.inBucket(0, 2), 50);
        x.put(Keys.inBucket(0, 2), 2);
        x.begin();
        x.remove(Keys.inBucket(0, 0));
        x.put(Keys.inBucket(1, 0), 100);
        x.put(Keys.inBucket(1, 1), 101);
        x.put(Keys.inBucket(1, 2), 102);
        due.is("it grew", x.count(1), 5);
        due.is("undo()", x.undo(), 4);
        due.is("buckets", x.count(1), 4);
        due.is("SPLIT", x.count(3), 0);
        due.is("entries", x.count(0), 12);
        due.is("page(0, 1)", x.page(0, 1), 64);
        due.is("page(64, 1)", x.page(64, 1), 65);
        due.is("page(65, 0)", x.page(65, 0), 4);
        for (int i = 0; i < 12; i++) {
            due.is("entry(" + i + ")", x.entry(i), i);
        }
        due.is("count(5)", x.count(5), 2);
    }

    private static void keepEmptiesTheJournal() {
        due.part("promise 8, keep");
        PageBuckets x = new PageBuckets();
        due.is("keep()", x.keep(), 0);
        x.put(1, 1);
        x.begin();
        due.is("keep() in an open group", x.keep(), NO);
        x.put(2, 2);
        x.put(3, 3);
        due.is("keep() in an open group", x.keep(), NO);
        due.is("count(5)", x.count(5), 3);
        x.end();
        due.is("keep()", x.keep(), 3);
        due.is("count(5)", x.count(5), 0);
        due.is("count(6)", x.count(6), 0);
        due.is("count(9)", x.count(9), 3);
        due.is("keep()", x.keep(), 0);
        due.is("stop(0)", x.stop(0), 0);
        due.is("get(1)", x.get(1), 1);
        due.is("get(3)", x.get(3), 3);
        x.begin();
        x.remove(1);
        due.is("undo()", x.undo(), 1);
        due.is("get(1)", x.get(1), 1);
    }

    private static void aGroupFillsTheJournal() {
        due.part("promises 5 to 8, a group of 64 writes");
        PageBuckets x = new PageBuckets();
        x.begin();
        for (int i = 0; i < 64; i++) {
            due.is("put", x.put(i, i), 0);
        }
        due.is("put", x.put(64, 64), LOG);
        due.is("keep()", x.keep(), NO);
        due.is("end()", x.end(), 64);
        due.is("count(6)", x.count(6), 1);
        due.is("begin() with a full journal", x.begin(), 0);
        due.is("put", x.put(64, 64), LOG);
        due.is("undo()", x.undo(), 0);
        due.is("count(5)", x.count(5), 64);
        due.is("keep()", x.keep(), 64);
        x.begin();
        for (int i = 0; i < 64; i++) {
            due.is("remove", x.remove(i), i);
        }
        due.is("buckets", x.count(1), 4);
        due.is("undo()", x.undo(), 64);
        due.is("entries", x.count(0), 64);
        due.is("buckets", x.count(1), 22);
        due.is("put", x.put(64, 64), 0);
    }

    private static PageBuckets withGroups() {
        PageBuckets x = new PageBuckets();
        x.put(1, 1);
        x.begin();
        x.put(2, 2);
        x.put(3, 3);
        x.put(1, 9);
        x.end();
        x.remove(2);
        x.begin();
        x.put(4, 4);
        x.put(5, 5);
        x.end();
        return x;
    }

    private static void stopKeepsTheFirstGroups() {
        due.part("promise 9, stop");
        int[] never = {7, 6, 3, 2, 0, 0};
        int[] of1 = {NONE, 1, 9, 9, 9, 9};
        int[] of2 = {NONE, NONE, 2, NONE, NONE, NONE};
        int[] of3 = {NONE, NONE, 3, 3, 3, 3};
        int[] of5 = {NONE, NONE, NONE, NONE, 5, 5};
        for (int n = 0; n < never.length; n++) {
            PageBuckets x = withGroups();
            due.is("count(6)", x.count(6), 4);
            due.is("stop(" + n + ")", x.stop(n), never[n]);
            due.is("get(1)", x.get(1), of1[n]);
            due.is("get(2)", x.get(2), of2[n]);
            due.is("get(3)", x.get(3), of3[n]);
            due.is("get(5)", x.get(5), of5[n]);
            due.is("count(5)", x.count(5), 0);
            due.is("count(6)", x.count(6), 0);
            due.is("count(9)", x.count(9), 7 - never[n]);
            due.is("stop(0)", x.stop(0), 0);
            due.is("get(1) is kept", x.get(1), of1[n]);
        }
    }

    private static void stopWithAnOpenGroup() {
        due.part("promise 9, stop with an open group");
        PageBuckets x = withGroups();
        x.begin();
        x.put(6, 6);
        x.remove(1);
        due.is("stop(9)", x.stop(9), 2);
        due.is("count(7)", x.count(7), 0);
        due.is("count(0)", x.count(0), 4);
        due.is("get(1)", x.get(1), 9);
        due.is("get(6)", x.get(6), NONE);
        due.is("end()", x.end(), NO);
        x.begin();
        due.is("stop(0) of a group without writes", x.stop(0), 0);
        due.is("count(7)", x.count(7), 0);
        due.is("begin()", x.begin(), 0);
        x.put(6, 6);
        due.is("stop(0)", x.stop(0), 1);
        due.is("count(0)", x.count(0), 4);
    }

    private static void stopEdges() {
        due.part("promise 9, stop's number");
        PageBuckets x = withGroups();
        x.begin();
        due.is("stop(-1)", x.stop(-1), BAD);
        due.is("stop(MIN)", x.stop(Integer.MIN_VALUE), BAD);
        due.is("count(5)", x.count(5), 7);
        due.is("count(6)", x.count(6), 4);
        due.is("count(7)", x.count(7), 1);
        due.is("stop(MAX)", x.stop(Integer.MAX_VALUE), 0);
        due.is("count(0)", x.count(0), 4);
        due.is("count(7)", x.count(7), 0);
    }

    private static void stopBringsBackTheStore() {
        due.part("promise 9, the store behind stop");
        PageBuckets x = new PageBuckets();
        for (int i = 0; i < 12; i++) {
            x.put(Keys.inBucket(0, i), i);
        }
        x.remove(Keys.inBucket(0, 2));
        due.is("cell(0, 2, 1)", x.cell(0, 2, 1), 11);
        for (int i = 20; i < 40; i++) {
            x.put(Keys.inBucket(i, i), i);
        }
        due.is("buckets", x.count(1), 11);
        due.is("stop(13)", x.stop(13), 20);
        due.is("buckets", x.count(1), 4);
        due.is("entries", x.count(0), 11);
        due.is("cell(0, 2, 1)", x.cell(0, 2, 1), 11);
        due.is("page(0, 1)", x.page(0, 1), 64);
        due.is("page(64, 1)", x.page(64, 1), 65);
        due.is("page(65, 0)", x.page(65, 0), 3);
        due.is("free", x.count(4), 62);
        due.is("page(4, 2)", x.page(4, 2), NONE);
    }

    private static void stopKeepsWhatStays() {
        due.part("promise 9, what stays is kept");
        PageBuckets x = withGroups();
        due.is("stop(2)", x.stop(2), 3);
        x.begin();
        x.remove(1);
        x.remove(2);
        x.remove(3);
        due.is("undo()", x.undo(), 3);
        due.is("get(1)", x.get(1), 9);
        due.is("get(2)", x.get(2), 2);
        due.is("get(3)", x.get(3), 3);
        x.put(1, 10);
        due.is("stop(0)", x.stop(0), 1);
        due.is("get(1)", x.get(1), 9);
    }
}
