/** Promises 10 to 16: address, bucket, page, cell, entry, effort, count. */
public final class ViewsTest {
    private static final int BAD = PageBuckets.BAD, NO = PageBuckets.NO, NONE = PageBuckets.NONE;
    private static final Due due = new Due();

    public static void main(String[] args) {
        addressOfKeys();
        bucketAnswers();
        pageAnswers();
        cellAnswers();
        entryAnswers();
        effortAnswers();
        countAnswers();
        due.finish();
    }

    private static void addressOfKeys() {
        due.part("promise 10, address");
        PageBuckets x = new PageBuckets();
        int[] keys = {0, 1, 5, -1, 123456789, Integer.MIN_VALUE, Integer.MAX_VALUE, BAD, NONE};
        for (int grown = 0; grown < 5; grown++) {
            for (int key : keys) {
                due.is("address(" + key + ")", x.address(key), addressIn(x.count(1), key));
            }
            for (int i = 0; i < 14; i++) {
                x.put(grown * 1000 + i, 1);
            }
            x.keep();
        }
        due.is("buckets", x.count(1), 24);
        due.is("address(5)", new PageBuckets().address(5), 3);
        due.is("address(-1)", new PageBuckets().address(-1), 2);
        due.is("address(0)", new PageBuckets().address(0), 0);
        due.is("that reads nothing", x.count(8), 0);
    }

    private static long addressIn(int buckets, int key) {
        long hash = (key * 2654435769L) & 0xffffffffL;
        hash ^= hash >> 15;
        int round = 4;
        while (2 * round <= buckets) {
            round *= 2;
        }
        long low = hash % round;
        return low < buckets - round ? hash % (2 * round) : low;
    }

    /** Bucket 2 has six entries, bucket 1 has one. */
    private static PageBuckets withTwoBuckets() {
        PageBuckets x = new PageBuckets();
        x.put(Keys.inBucket(1, 0), 10);
        for (int i = 0; i < 6; i++) {
            x.put(Keys.inBucket(2, i), 20 + i);
        }
        return x;
    }

    private static void bucketAnswers() {
        due.part("promise 11, bucket");
        PageBuckets x = withTwoBuckets();
        due.is("bucket(2, 0)", x.bucket(2, 0), 6);
        due.is("bucket(2, 1)", x.bucket(2, 1), 2);
        due.is("bucket(2, 2)", x.bucket(2, 2), 64);
        due.is("bucket(1, 0)", x.bucket(1, 0), 1);
        due.is("bucket(1, 1)", x.bucket(1, 1), 1);
        due.is("bucket(1, 2)", x.bucket(1, 2), 1);
        due.is("bucket(0, 0)", x.bucket(0, 0), 0);
        due.is("bucket(0, 1)", x.bucket(0, 1), 1);
        due.is("bucket(0, 2)", x.bucket(0, 2), 0);
        int[] wrong = {-1, 4, 64, Integer.MIN_VALUE, Integer.MAX_VALUE};
        for (int b : wrong) {
            due.is("bucket(" + b + ", 0)", x.bucket(b, 0), BAD);
            due.is("bucket(" + b + ", 2)", x.bucket(b, 2), BAD);
        }
        int[] wrongWhat = {-1, 3, Integer.MIN_VALUE, Integer.MAX_VALUE};
        for (int what : wrongWhat) {
            due.is("bucket(0, " + what + ")", x.bucket(0, what), BAD);
        }
        for (int i = 0; i < 6; i++) {
            x.put(Keys.inBucket(3, i), i);
        }
        due.is("bucket(4, 2)", x.bucket(4, 2), 4);
        due.is("bucket(5, 2)", x.bucket(5, 2), BAD);
    }

    private static void pageAnswers() {
        due.part("promise 12, page");
        PageBuckets x = withTwoBuckets();
        due.is("page(2, 0)", x.page(2, 0), 4);
        due.is("page(64, 0)", x.page(64, 0), 2);
        due.is("page(65, 0)", x.page(65, 0), 0);
        due.is("page(0, 0)", x.page(0, 0), 0);
        due.is("page(63, 0)", x.page(63, 0), 0);
        due.is("page(2, 1)", x.page(2, 1), 64);
        due.is("page(64, 1)", x.page(64, 1), NONE);
        due.is("page(1, 1)", x.page(1, 1), NONE);
        due.is("page(127, 1)", x.page(127, 1), NONE);
        due.is("page(0, 2)", x.page(0, 2), 0);
        due.is("page(3, 2)", x.page(3, 2), 3);
        due.is("page(4, 2)", x.page(4, 2), NONE);
        due.is("page(63, 2)", x.page(63, 2), NONE);
        due.is("page(64, 2)", x.page(64, 2), 2);
        due.is("page(65, 2)", x.page(65, 2), NONE);
        due.is("page(127, 2)", x.page(127, 2), NONE);
        int[] wrong = {-1, 128, Integer.MIN_VALUE, Integer.MAX_VALUE};
        for (int p : wrong) {
            for (int what = 0; what < 3; what++) {
                due.is("page(" + p + ", " + what + ")", x.page(p, what), BAD);
            }
        }
        int[] wrongWhat = {-1, 3, Integer.MIN_VALUE, Integer.MAX_VALUE};
        for (int what : wrongWhat) {
            due.is("page(0, " + what + ")", x.page(0, what), BAD);
            due.is("page(100, " + what + ")", x.page(100, what), BAD);
        }
    }

    private static void cellAnswers() {
        due.part("promise 13, cell");
        PageBuckets x = withTwoBuckets();
        due.is("cell(2, 0, 0)", x.cell(2, 0, 0), Keys.inBucket(2, 0));
        due.is("cell(2, 3, 0)", x.cell(2, 3, 0), Keys.inBucket(2, 3));
        due.is("cell(2, 3, 1)", x.cell(2, 3, 1), 23);
        due.is("cell(64, 1, 1)", x.cell(64, 1, 1), 25);
        due.is("cell(64, 2, 1)", x.cell(64, 2, 1), NO);
        due.is("cell(0, 0, 0)", x.cell(0, 0, 0), NO);
        due.is("cell(4, 0, 0)", x.cell(4, 0, 0), NO);
        due.is("cell(127, 3, 1)", x.cell(127, 3, 1), NO);
        due.is("cell(-1, 0, 0)", x.cell(-1, 0, 0), BAD);
        due.is("cell(128, 0, 0)", x.cell(128, 0, 0), BAD);
        due.is("cell(MAX, 0, 0)", x.cell(Integer.MAX_VALUE, 0, 0), BAD);
        due.is("cell(MIN, 0, 0)", x.cell(Integer.MIN_VALUE, 0, 0), BAD);
        due.is("cell(2, -1, 0)", x.cell(2, -1, 0), BAD);
        due.is("cell(2, 4, 0)", x.cell(2, 4, 0), BAD);
        due.is("cell(0, 4, 0) of an empty page", x.cell(0, 4, 0), BAD);
        due.is("cell(2, MIN, 0)", x.cell(2, Integer.MIN_VALUE, 0), BAD);
        due.is("cell(2, 0, -1)", x.cell(2, 0, -1), BAD);
        due.is("cell(2, 0, 2)", x.cell(2, 0, 2), BAD);
        due.is("cell(0, 0, 2): BAD ahead of NO", x.cell(0, 0, 2), BAD);
        x.put(BAD, 5);
        x.put(NO, 6);
        int inBad = x.address(BAD), inNo = x.address(NO);
        int atBad = x.bucket(inBad, 2), atNo = x.bucket(inNo, 2);
        due.is("a key as BAD", x.cell(atBad, x.page(atBad, 0) - (inBad == inNo ? 2 : 1), 0), BAD);
        due.is("a key as NO", x.cell(atNo, x.page(atNo, 0) - 1, 0), NO);
        due.is("its value", x.cell(atNo, x.page(atNo, 0) - 1, 1), 6);
    }

    private static void entryAnswers() {
        due.part("promise 14, entry");
        PageBuckets x = withTwoBuckets();
        int[] order = {10, 20, 21, 22, 23, 24, 25};
        for (int i = 0; i < order.length; i++) {
            due.is("entry(" + i + ")", x.entry(i), order[i]);
        }
        due.is("entry(7)", x.entry(7), NONE);
        due.is("entry(MAX)", x.entry(Integer.MAX_VALUE), NONE);
        due.is("entry(-1)", x.entry(-1), BAD);
        due.is("entry(MIN)", x.entry(Integer.MIN_VALUE), BAD);
        x.put(Keys.inBucket(0, 0), 99);
        due.is("entry(0)", x.entry(0), 99);
        due.is("entry(7)", x.entry(7), 25);
        due.is("that reads nothing", x.count(8), 0);
    }

    private static void effortAnswers() {
        due.part("promise 15, effort");
        PageBuckets x = withTwoBuckets();
        due.is("1 + 4 + 2 * 2", x.effort(), 9);
        for (int i = 6; i < 9; i++) {
            x.put(Keys.inBucket(2, i), i);
        }
        due.is("1 + 4 + 2 * 4 + 3", x.effort(), 16);
        x.remove(Keys.inBucket(2, 0));
        due.is("1 + 4 + 2 * 4", x.effort(), 13);
        due.is("that reads nothing", x.count(8), 0);
    }

    private static void countAnswers() {
        due.part("promise 16, count");
        PageBuckets x = withTwoBuckets();
        x.keep();
        x.put(Keys.inBucket(2, 6), 1);
        x.put(Keys.inBucket(2, 7), 1);
        x.begin();
        x.put(Keys.inBucket(2, 8), 1);
        x.get(Keys.inBucket(2, 8));
        int[] wanted = {10, 4, 0, 0, 62, 3, 2, 1, 3, 10, 3};
        for (int what = 0; what < wanted.length; what++) {
            due.is("count(" + what + ")", x.count(what), wanted[what]);
        }
        x.undo();
        int[] behindUndo = {9, 4, 0, 0, 63, 2, 2, 0, 3, 9, 2};
        for (int what = 0; what < behindUndo.length; what++) {
            due.is("count(" + what + ")", x.count(what), behindUndo[what]);
        }
        x.stop(1);
        int[] behindStop = {8, 4, 0, 0, 63, 0, 0, 0, 3, 8, 2};
        for (int what = 0; what < behindStop.length; what++) {
            due.is("count(" + what + ")", x.count(what), behindStop[what]);
        }
        int[] wrong = {-1, 11, Integer.MIN_VALUE, Integer.MAX_VALUE};
        for (int what : wrong) {
            due.is("count(" + what + ")", x.count(what), BAD);
        }
    }
}
