/** Promises 1 to 4: a new object, put, remove, get; growing and shrinking. */
public final class StoreTest {
    private static final int BAD = PageBuckets.BAD, NO = PageBuckets.NO, FULL = PageBuckets.FULL;
    private static final int LOG = PageBuckets.LOG, NONE = PageBuckets.NONE;
    private static final Due due = new Due();

    public static void main(String[] args) {
        newObject();
        putAnswers();
        putAddsBehindTheLast();
        putWithoutAFreePage();
        putIntoAFullJournal();
        growsAtThirteen();
        growingDealsOutPagesInOrder();
        growsOverTheLevels();
        removeAnswers();
        removeMovesTheLastEntry();
        removeFreesThePage();
        leastFreePageComesFirst();
        shrinksBelowHalf();
        shrinkingJoinsInOrder();
        shrinkingDealsOutPagesAnew();
        shrinksOverTheLevels();
        getCountsPages();
        due.finish();
    }

    private static void newObject() {
        due.part("promise 1, a new object");
        PageBuckets x = new PageBuckets();
        int[] counts = {0, 4, 0, 0, 64, 0, 0, 0, 0, 0, 1};
        for (int what = 0; what < counts.length; what++) {
            due.is("count(" + what + ")", x.count(what), counts[what]);
        }
        for (int b = 0; b < 4; b++) {
            due.is("bucket(" + b + ", 0)", x.bucket(b, 0), 0);
            due.is("bucket(" + b + ", 1)", x.bucket(b, 1), 1);
            due.is("bucket(" + b + ", 2)", x.bucket(b, 2), b);
        }
        due.is("bucket(4, 0)", x.bucket(4, 0), BAD);
        for (int p = 0; p < 128; p++) {
            due.is("page(" + p + ", 0)", x.page(p, 0), 0);
            due.is("page(" + p + ", 1)", x.page(p, 1), NONE);
            due.is("page(" + p + ", 2)", x.page(p, 2), p < 4 ? p : NONE);
        }
        due.is("entry(0)", x.entry(0), NONE);
        due.is("effort()", x.effort(), 0);
        due.is("get(0)", x.get(0), NONE);
        due.is("remove(0)", x.remove(0), NONE);
    }

    private static void putAnswers() {
        due.part("promise 2, put");
        PageBuckets x = new PageBuckets();
        int[] edges = {0, 1, -1, Integer.MIN_VALUE, Integer.MAX_VALUE, BAD, NO, FULL, LOG, NONE};
        for (int i = 0; i < edges.length; i++) {
            due.is("put(" + edges[i] + ", " + i + ")", x.put(edges[i], i), 0);
        }
        for (int i = 0; i < edges.length; i++) {
            due.is("put again", x.put(edges[i], i + 100), 1);
            due.is("get", x.get(edges[i]), i + 100);
        }
        int[] wrong = {-1, 1000000001, Integer.MIN_VALUE, Integer.MAX_VALUE, BAD};
        for (int value : wrong) {
            due.is("put(0, " + value + ")", x.put(0, value), BAD);
            due.is("put(77, " + value + ")", x.put(77, value), BAD);
        }
        due.is("get(0)", x.get(0), 100);
        due.is("get(77)", x.get(77), NONE);
        due.is("count(0)", x.count(0), 10);
        due.is("count(5)", x.count(5), 20);
        due.is("put(0, 1000000000)", x.put(0, 1000000000), 1);
        due.is("get(0)", x.get(0), 1000000000);
        due.is("put(77, 0)", x.put(77, 0), 0);
        due.is("get(77)", x.get(77), 0);
        due.is("put(77, 0) the same again", x.put(77, 0), 1);
        due.is("count(5)", x.count(5), 23);
    }

    private static void putAddsBehindTheLast() {
        due.part("promise 2, where an entry is added");
        PageBuckets x = new PageBuckets();
        for (int i = 0; i < 9; i++) {
            x.put(Keys.inBucket(2, i), i);
        }
        int[] chain = {2, 64, 65};
        for (int i = 0; i < 9; i++) {
            due.is("key " + i, x.cell(chain[i / 4], i % 4, 0), Keys.inBucket(2, i));
            due.is("value " + i, x.cell(chain[i / 4], i % 4, 1), i);
        }
        due.is("page(2, 1)", x.page(2, 1), 64);
        due.is("page(64, 1)", x.page(64, 1), 65);
        due.is("page(65, 1)", x.page(65, 1), NONE);
        x.put(Keys.inBucket(2, 5), 500);
        due.is("another value where it stands", x.cell(64, 1, 1), 500);
        due.is("bucket(2, 0)", x.bucket(2, 0), 9);
    }

    /** Bucket 0 gets 260 entries: its first page and all spare ones are full. */
    private static PageBuckets withoutFreePages() {
        PageBuckets x = new PageBuckets();
        for (int i = 0; i < 260; i++) {
            due.is("put " + i, x.put(Keys.inBucket(0, i), i), 0);
            if (i % 64 == 63 && i < 192) {
                x.keep();
            }
            if (i == 200) {
                x.keep();
            }
        }
        return x;
    }

    private static void putWithoutAFreePage() {
        due.part("promise 2, FULL");
        PageBuckets x = withoutFreePages();
        due.is("count(4)", x.count(4), 0);
        due.is("count(10)", x.count(10), 65);
        due.is("count(1)", x.count(1), 64);
        due.is("count(5)", x.count(5), 59);
        due.is("new key", x.put(Keys.inBucket(0, 260), 1), FULL);
        due.is("BAD comes first", x.put(Keys.inBucket(0, 260), -1), BAD);
        due.is("key that is there", x.put(Keys.inBucket(0, 259), 7), 1);
        for (int i = 0; i < 4; i++) {
            due.is("another bucket", x.put(Keys.inBucket(1, i), i), 0);
        }
        due.is("count(5)", x.count(5), 64);
        due.is("FULL ahead of LOG", x.put(Keys.inBucket(1, 4), 4), FULL);
        due.is("LOG where there is a cell", x.put(Keys.inBucket(2, 0), 4), LOG);
        due.is("LOG for a key that is there", x.put(Keys.inBucket(0, 0), 4), LOG);
        due.is("count(0)", x.count(0), 264);
        due.is("count(9)", x.count(9), 265);
        x.keep();
        due.is("remove the last", x.remove(Keys.inBucket(0, 259)), 7);
        due.is("still no free page", x.count(4), 0);
        due.is("put in the cell", x.put(Keys.inBucket(0, 260), 1), 0);
        due.is("FULL again", x.put(Keys.inBucket(0, 261), 1), FULL);
    }

    private static void putIntoAFullJournal() {
        due.part("promises 2 and 3, LOG");
        PageBuckets x = new PageBuckets();
        for (int i = 0; i < 63; i++) {
            x.put(1, i);
        }
        due.is("write 64", x.put(2, 0), 0);
        due.is("write 65", x.put(3, 0), LOG);
        due.is("write 65", x.put(1, 0), LOG);
        due.is("BAD comes first", x.put(1, -1), BAD);
        due.is("remove(1)", x.remove(1), LOG);
        due.is("remove(3)", x.remove(3), NONE);
        due.is("get(1)", x.get(1), 62);
        due.is("get(3)", x.get(3), NONE);
        due.is("count(9)", x.count(9), 64);
        due.is("keep()", x.keep(), 64);
        due.is("put(3, 0)", x.put(3, 0), 0);
        due.is("remove(1)", x.remove(1), 62);
    }

    private static void growsAtThirteen() {
        due.part("promise 2, growing");
        PageBuckets x = new PageBuckets();
        for (int i = 0; i < 12; i++) {
            x.put(Keys.inBucket(3, i), i);
        }
        due.is("12 entries: buckets", x.count(1), 4);
        due.is("another value: 1", x.put(Keys.inBucket(3, 0), 5), 1);
        due.is("buckets", x.count(1), 4);
        due.is("bucket(4, 0)", x.bucket(4, 0), BAD);
        x.put(Keys.inBucket(3, 12), 12);
        due.is("13 entries: buckets", x.count(1), 5);
        due.is("LEVEL", x.count(2), 0);
        due.is("SPLIT", x.count(3), 1);
        due.is("bucket(4, 0)", x.bucket(4, 0), 0);
        due.is("bucket 3 as it was", x.bucket(3, 0), 13);
        due.is("page(4, 2)", x.page(4, 2), 4);
    }

    private static void growingDealsOutPagesInOrder() {
        due.part("promise 2, growing divides in order");
        PageBuckets x = new PageBuckets();
        // By hash: six that go to bucket 4, then six that stay in bucket 0, in turn from the ninth on.
        int[] low = {4, 4, 4, 4, 4, 0, 0, 0, 0, 4, 0, 0};
        for (int i = 0; i < low.length; i++) {
            x.put(Keys.inBucket(low[i], i), i);
        }
        due.is("page(0, 1)", x.page(0, 1), 64);
        due.is("page(64, 1)", x.page(64, 1), 65);
        x.put(Keys.inBucket(1, 0), 12);
        due.is("buckets", x.count(1), 5);
        due.is("page(4, 1)", x.page(4, 1), 64);
        due.is("page(0, 1)", x.page(0, 1), 65);
        due.is("page(64, 2)", x.page(64, 2), 4);
        due.is("page(65, 2)", x.page(65, 2), 0);
        int[] order = {5, 6, 7, 8, 10, 11, 12, 0, 1, 2, 3, 4, 9};
        for (int i = 0; i < order.length; i++) {
            due.is("entry(" + i + ")", x.entry(i), order[i]);
        }
        due.is("address of what stays", x.address(Keys.inBucket(0, 1)), 0);
        due.is("address of what goes", x.address(Keys.inBucket(4, 1)), 4);
    }

    private static void growsOverTheLevels() {
        due.part("promise 2, levels");
        PageBuckets x = new PageBuckets();
        int buckets = 4, level = 0, split = 0;
        for (int i = 0; i < 230; i++) {
            due.is("put", x.put(i, i), 0);
            if (i % 60 == 59) {
                x.keep();
            }
            if (i + 1 > 3 * buckets && buckets < 64) {
                buckets++;
                split++;
            }
            if (split == 4 << level) {
                split = 0;
                level++;
            }
            if (i % 9 == 0 || i > 185) {
                due.is("buckets at " + i, x.count(1), buckets);
                due.is("LEVEL at " + i, x.count(2), level);
                due.is("SPLIT at " + i, x.count(3), split);
            }
        }
        due.is("64 buckets at most", x.count(1), 64);
        due.is("LEVEL", x.count(2), 4);
        due.is("SPLIT", x.count(3), 0);
    }

    private static void removeAnswers() {
        due.part("promise 3, remove");
        PageBuckets x = new PageBuckets();
        due.is("remove(5)", x.remove(5), NONE);
        due.is("that is no write", x.count(5), 0);
        x.put(5, 0);
        x.put(6, 1000000000);
        due.is("remove(5)", x.remove(5), 0);
        due.is("remove(5)", x.remove(5), NONE);
        due.is("remove(6)", x.remove(6), 1000000000);
        due.is("count(0)", x.count(0), 0);
        due.is("count(5)", x.count(5), 4);
        due.is("count(6)", x.count(6), 4);
        due.is("count(9)", x.count(9), 4);
        due.is("4 buckets at least", x.count(1), 4);
    }

    private static void removeMovesTheLastEntry() {
        due.part("promise 3, the last entry comes to the cell");
        PageBuckets x = new PageBuckets();
        for (int i = 0; i < 7; i++) {
            x.put(Keys.inBucket(1, i), i);
        }
        x.remove(Keys.inBucket(1, 1));
        due.is("key", x.cell(1, 1, 0), Keys.inBucket(1, 6));
        due.is("value", x.cell(1, 1, 1), 6);
        due.is("cell(64, 2, 0)", x.cell(64, 2, 0), NO);
        due.is("last of all", x.remove(Keys.inBucket(1, 5)), 5);
        due.is("cell(64, 1, 0)", x.cell(64, 1, 0), NO);
        due.is("cell(64, 0, 1)", x.cell(64, 0, 1), 4);
        due.is("bucket(1, 0)", x.bucket(1, 0), 5);
    }

    private static void removeFreesThePage() {
        due.part("promise 3, a page is free again");
        PageBuckets x = new PageBuckets();
        for (int i = 0; i < 5; i++) {
            x.put(Keys.inBucket(1, i), i);
        }
        due.is("free", x.count(4), 63);
        x.remove(Keys.inBucket(1, 0));
        due.is("free", x.count(4), 64);
        due.is("page(1, 1)", x.page(1, 1), NONE);
        due.is("page(64, 2)", x.page(64, 2), NONE);
        due.is("page(64, 0)", x.page(64, 0), 0);
        due.is("bucket(1, 1)", x.bucket(1, 1), 1);
        due.is("bucket(1, 2)", x.bucket(1, 2), 1);
        due.is("cell(1, 0, 1)", x.cell(1, 0, 1), 4);
        for (int i = 1; i < 5; i++) {
            due.is("remove", x.remove(Keys.inBucket(1, i)), i);
        }
        due.is("first pages stay", x.page(1, 2), 1);
        due.is("free", x.count(4), 64);
    }

    private static void leastFreePageComesFirst() {
        due.part("promise 2, the free page with the least number");
        PageBuckets x = new PageBuckets();
        for (int i = 0; i < 5; i++) {
            x.put(Keys.inBucket(1, i), i);
        }
        for (int i = 0; i < 5; i++) {
            x.put(Keys.inBucket(2, i), i);
        }
        due.is("bucket(2, 2)", x.bucket(2, 2), 65);
        x.remove(Keys.inBucket(1, 4));
        due.is("page(64, 2)", x.page(64, 2), NONE);
        x.put(Keys.inBucket(1, 7), 7);
        due.is("bucket(1, 2)", x.bucket(1, 2), 64);
        x.remove(Keys.inBucket(1, 7));
        x.put(Keys.inBucket(2, 5), 5);
        x.put(Keys.inBucket(2, 6), 6);
        x.put(Keys.inBucket(2, 7), 7);
        due.is("entries", x.count(0), 12);
        due.is("bucket(2, 2)", x.bucket(2, 2), 65);
        x.remove(Keys.inBucket(1, 0));
        x.put(Keys.inBucket(2, 8), 8);
        due.is("bucket(2, 2)", x.bucket(2, 2), 64);
        due.is("page(65, 1)", x.page(65, 1), 64);
    }

    private static void shrinksBelowHalf() {
        due.part("promise 3, shrinking");
        PageBuckets x = new PageBuckets();
        for (int i = 0; i < 13; i++) {
            x.put(i, i);
        }
        due.is("buckets", x.count(1), 5);
        for (int i = 0; i < 5; i++) {
            x.remove(i);
        }
        due.is("8 entries: buckets", x.count(1), 5);
        x.remove(5);
        due.is("7 entries: buckets", x.count(1), 4);
        due.is("SPLIT", x.count(3), 0);
        due.is("bucket(4, 0)", x.bucket(4, 0), BAD);
        due.is("page(4, 2)", x.page(4, 2), NONE);
        due.is("page(4, 0)", x.page(4, 0), 0);
        for (int i = 6; i < 13; i++) {
            due.is("get(" + i + ")", x.get(i), i);
        }
    }

    private static void shrinkingJoinsInOrder() {
        due.part("promise 3, shrinking joins in order");
        PageBuckets x = new PageBuckets();
        for (int i = 0; i < 6; i++) {
            x.put(Keys.inBucket(1, i), 100 + i);
        }
        for (int i = 0; i < 3; i++) {
            x.put(Keys.inBucket(4, i), 40 + i);
            x.put(Keys.inBucket(0, i), i);
        }
        x.put(Keys.inBucket(2, 0), 200);
        due.is("buckets", x.count(1), 5);
        due.is("bucket(0, 0)", x.bucket(0, 0), 3);
        due.is("bucket(4, 0)", x.bucket(4, 0), 3);
        due.is("bucket(1, 2)", x.bucket(1, 2), 64);
        for (int i = 0; i < 6; i++) {
            due.is("remove", x.remove(Keys.inBucket(1, i)), 100 + i);
        }
        due.is("buckets", x.count(1), 4);
        int[] order = {0, 1, 2, 40, 41, 42, 200};
        for (int i = 0; i < order.length; i++) {
            due.is("entry(" + i + ")", x.entry(i), order[i]);
        }
        due.is("bucket(0, 2)", x.bucket(0, 2), 64);
        due.is("page(4, 2)", x.page(4, 2), NONE);
        due.is("page(4, 0)", x.page(4, 0), 0);
    }

    private static void shrinkingDealsOutPagesAnew() {
        due.part("promise 3, shrinking frees the pages of both first");
        PageBuckets x = new PageBuckets();
        for (int i = 0; i < 5; i++) {
            x.put(Keys.inBucket(1, i), 100 + i);
        }
        for (int i = 0; i < 5; i++) {
            x.put(Keys.inBucket(0, i), i);
        }
        for (int i = 0; i < 3; i++) {
            x.put(Keys.inBucket(2, i), 200 + i);
        }
        due.is("buckets", x.count(1), 5);
        due.is("page(0, 1)", x.page(0, 1), 65);
        for (int i = 0; i < 3; i++) {
            x.remove(Keys.inBucket(1, i));
            x.remove(Keys.inBucket(2, i));
        }
        due.is("buckets", x.count(1), 4);
        due.is("page(0, 1)", x.page(0, 1), 64);
        due.is("page(64, 2)", x.page(64, 2), 0);
        due.is("page(65, 2)", x.page(65, 2), NONE);
        due.is("cell(64, 0, 1)", x.cell(64, 0, 1), 4);
    }

    private static void shrinksOverTheLevels() {
        due.part("promise 3, shrinking over a level");
        PageBuckets x = new PageBuckets();
        for (int i = 0; i < 50; i++) {
            x.put(i, i);
        }
        due.is("buckets", x.count(1), 17);
        due.is("LEVEL", x.count(2), 2);
        due.is("SPLIT", x.count(3), 1);
        x.keep();
        int buckets = 17;
        for (int i = 0; i < 50; i++) {
            due.is("remove", x.remove(i), i);
            if (buckets > 4 && 2 * (49 - i) < 3 * buckets) {
                buckets--;
            }
            int level = buckets < 8 ? 0 : buckets < 16 ? 1 : 2;
            due.is("buckets at " + i, x.count(1), buckets);
            due.is("LEVEL at " + i, x.count(2), level);
            due.is("SPLIT at " + i, x.count(3), buckets - (4 << level));
            due.is("get of the last one", x.get(49), i == 49 ? NONE : 49);
        }
        due.is("buckets", x.count(1), 4);
    }

    private static void getCountsPages() {
        due.part("promise 4, get");
        PageBuckets x = new PageBuckets();
        for (int i = 0; i < 9; i++) {
            x.put(Keys.inBucket(2, i), 10 * i);
        }
        due.is("put reads nothing", x.count(8), 0);
        due.is("first page", x.get(Keys.inBucket(2, 3)), 30);
        due.is("READ", x.count(8), 1);
        due.is("second page", x.get(Keys.inBucket(2, 4)), 40);
        due.is("READ", x.count(8), 3);
        due.is("third page", x.get(Keys.inBucket(2, 8)), 80);
        due.is("READ", x.count(8), 6);
        due.is("not there", x.get(Keys.inBucket(2, 9)), NONE);
        due.is("READ", x.count(8), 9);
        due.is("a bucket without entries", x.get(Keys.inBucket(1, 0)), NONE);
        due.is("READ", x.count(8), 10);
        x.remove(Keys.inBucket(2, 8));
        due.is("remove reads nothing", x.count(8), 10);
        due.is("not there", x.get(Keys.inBucket(2, 8)), NONE);
        due.is("READ", x.count(8), 12);
        x.stop(0);
        due.is("READ stays behind a stop", x.count(8), 12);
    }
}
