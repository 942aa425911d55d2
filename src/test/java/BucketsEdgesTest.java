/** The edges of the terms: BUCKETS, HASH, ADDRESS, GROWING, SHRINKING, WRITES. */
public final class BucketsEdgesTest {
    private static final int BAD = PageBuckets.BAD, NO = PageBuckets.NO, FULL = PageBuckets.FULL;
    private static final int LOG = PageBuckets.LOG, NONE = PageBuckets.NONE;
    private static final Due due = new Due();

    public static void main(String[] args) {
        levelAndSplitAre0AtFirst();
        fourBucketsAtLeast();
        sixtyFourBucketsAtMost();
        splitStaysBelow();
        theHashRunsOver();
        theAddressBelowSplit();
        theAddressAtALevelsEnds();
        growingFreesThePagesFirst();
        growingAnEmptyBucket();
        growingAllGoOrNone();
        growingOverALevel();
        growingInTheOrderInWhichItStood();
        shrinkingOverALevel();
        shrinkingJoinsInOrder();
        shrinkingFreesThePagesOfTheOneThatWent();
        shrinkingFreesThePagesOfBucketS();
        shrinkingFreesThePagesOfBoth();
        shrinkingEmptyBuckets();
        shrinkingToAFullPage();
        shrinkingTakesAPageMore();
        shrinkingAtTheFullest();
        putWhereItStands();
        putGrowsAboveThreeForEach();
        putGrowsBelow64BucketsAlone();
        removeShrinksBelowHalf();
        removeShrinksAboveFourAlone();
        due.finish();
    }

    /** Three entries in each bucket of 64. */
    private static Run with64Buckets() {
        Run run = new Run(due);
        for (int b = 0; b < 64; b++) {
            run.fill(b, 0, 3);
        }
        return run;
    }

    private static void bucketsLevelSplit(Run run, int buckets, int level, int split) {
        run.is(Call.count(1), buckets);
        run.is(Call.count(2), level);
        run.is(Call.count(3), split);
    }

    // ---- BUCKETS

    private static void levelAndSplitAre0AtFirst() {
        due.part("BUCKETS: LEVEL and SPLIT are 0 at first");
        bucketsLevelSplit(new Run(due), 4, 0, 0);
    }

    private static void fourBucketsAtLeast() {
        due.part("BUCKETS: there are 4 at least");
        Run run = new Run(due).fill(0, 0, 14).empty(0, 0, 14);
        bucketsLevelSplit(run, 4, 0, 0);
        run.is(Call.bucket(3, 0), 0);
        run.is(Call.bucket(4, 0), BAD);
        run.with(Call.put(1, 1), Call.remove(1));
        bucketsLevelSplit(run, 4, 0, 0);
    }

    private static void sixtyFourBucketsAtMost() {
        due.part("BUCKETS: there are 64 at most");
        Run run = with64Buckets();
        bucketsLevelSplit(run, 64, 4, 0);
        for (int b = 0; b < 64; b++) {
            run.fill(b, 3, 5);
        }
        bucketsLevelSplit(run, 64, 4, 0);
        run.is(Call.bucket(63, 0), 5);
        run.is(Call.bucket(64, 0), BAD);
        run.is(Call.count(4), 0);
    }

    private static void splitStaysBelow() {
        due.part("BUCKETS: there are 4 * 2^L + S, S below 4 * 2^L");
        Run run = new Run(due).fill(0, 0, 12);
        int[] round = {4, 8, 16, 32, 64};
        for (int buckets = 5, level = 0; buckets <= 64; buckets++) {
            run.fill(0, 3 * buckets - 3, 3 * buckets - 2);
            level = buckets == 2 * round[level] ? level + 1 : level;
            bucketsLevelSplit(run, buckets, level, buckets - round[level]);
            run.fill(0, 3 * buckets - 2, 3 * buckets);
        }
    }

    private static void theHashRunsOver() {
        due.part("HASH: key * -1640531527 (running over), then h with h >>> 15");
        // Reckoned with whole numbers of any length: key, then the lowest 6 bits of its hash.
        int[][] hashes = {{0, 0}, {1, 23}, {2, 47}, {-1, 22}, {-2, 44}, {5, 55}, {Integer.MAX_VALUE, 22},
            {Integer.MIN_VALUE, 0}, {BAD, 62}, {NO, 4}, {FULL, 14}, {LOG, 48}, {NONE, 30}, {65536, 50},
            {1000000007, 59}, {-1640531527, 13}};
        Run run = with64Buckets();
        Run four = new Run(due);
        for (int[] hash : hashes) {
            run.is(Call.address(hash[0]), hash[1]);
            four.is(Call.address(hash[0]), hash[1] % 4);
        }
    }

    private static void theAddressBelowSplit() {
        due.part("ADDRESS: if that is below S, the lowest L + 3 bits");
        Run run = new Run(due).fill(3, 0, 12);
        run.is(Call.address(Keys.withHash(4)), 0);
        run.fill(3, 12, 13);
        bucketsLevelSplit(run, 5, 0, 1);
        run.is(Call.address(Keys.withHash(0)), 0);
        run.is(Call.address(Keys.withHash(4)), 4);
        run.is(Call.address(Keys.withHash(8)), 0);
        run.is(Call.address(Keys.withHash(12)), 4);
        run.is(Call.address(Keys.withHash(1)), 1);
        run.is(Call.address(Keys.withHash(5)), 1);
        run.fill(3, 13, 19);
        bucketsLevelSplit(run, 7, 0, 3);
        run.is(Call.address(Keys.withHash(6)), 6);
        run.is(Call.address(Keys.withHash(2)), 2);
        run.is(Call.address(Keys.withHash(3)), 3);
        run.is(Call.address(Keys.withHash(7)), 3);
    }

    private static void theAddressAtALevelsEnds() {
        due.part("ADDRESS: the lowest L + 2 bits, at the ends of a level");
        Run run = new Run(due).fill(3, 0, 22);
        bucketsLevelSplit(run, 8, 1, 0);
        run.is(Call.address(Keys.withHash(7)), 7);
        run.is(Call.address(Keys.withHash(8)), 0);
        run.is(Call.address(Keys.withHash(15)), 7);
        run.fill(3, 22, 43);
        bucketsLevelSplit(run, 15, 1, 7);
        run.is(Call.address(Keys.withHash(14)), 14);
        run.is(Call.address(Keys.withHash(30)), 14);
        run.is(Call.address(Keys.withHash(7)), 7);
        run.is(Call.address(Keys.withHash(15)), 7);
        Run most = with64Buckets();
        most.is(Call.address(Keys.withHash(63)), 63);
        most.is(Call.address(Keys.withHash(64)), 0);
        most.is(Call.address(Keys.withHash(127)), 63);
        most.is(Call.address(Keys.withHash(-1)), 63);
    }

    // ---- GROWING

    private static void growingFreesThePagesFirst() {
        due.part("GROWING: all spare pages of its chain are free, then what it had is added");
        Run run = new Run(due).fill(1, 0, 5).fill(0, 0, 1).fill(4, 1, 6);
        run.chain(1, 1, 64);
        run.chain(0, 0, 65);
        run.empty(1, 4, 5).fill(2, 0, 2);
        run.chain(0, 0, 65);
        run.is(Call.count(1), 4);
        run.fill(4, 6, 7);
        run.is(Call.count(1), 5);
        run.chain(0, 0);
        run.chain(4, 4, 64);
        run.is(Call.page(65, 2), NONE);
        run.is(Call.page(65, 0), 0);
        run.is(Call.count(4), 63);
    }

    private static void growingAnEmptyBucket() {
        due.part("GROWING: bucket S has no entries");
        Run run = new Run(due).fill(3, 0, 13);
        bucketsLevelSplit(run, 5, 0, 1);
        run.is(Call.bucket(0, 0), 0);
        run.is(Call.bucket(4, 0), 0);
        run.chain(0, 0);
        run.chain(4, 4);
        run.chain(3, 3, 64, 65, 66);
        run.entries(0, 1, 2, 3, 4, 5, 6, 7, 8, 9, 10, 11, 12);
    }

    private static void growingAllGoOrNone() {
        due.part("GROWING: all of bucket S go");
        Run all = new Run(due).fill(4, 0, 13);
        all.chain(0, 0);
        all.is(Call.bucket(0, 0), 0);
        all.chain(4, 4, 64, 65, 66);
        all.is(Call.bucket(4, 0), 13);
        all.is(Call.cell(66, 0, 1), 12);
        due.part("GROWING: none of bucket S goes");
        Run none = new Run(due).fill(0, 0, 13);
        none.chain(0, 0, 64, 65, 66);
        none.is(Call.bucket(0, 0), 13);
        none.chain(4, 4);
        none.is(Call.bucket(4, 0), 0);
        none.is(Call.cell(66, 0, 1), 12);
    }

    private static void growingOverALevel() {
        due.part("GROWING: if that is 4 * 2^L, S is 0 and L is 1 more");
        Run run = new Run(due).fill(3, 0, 10).fill(7, 10, 21);
        bucketsLevelSplit(run, 7, 0, 3);
        run.is(Call.bucket(3, 0), 21);
        run.fill(7, 21, 22);
        bucketsLevelSplit(run, 8, 1, 0);
        run.is(Call.bucket(3, 0), 10);
        run.is(Call.bucket(7, 0), 12);
        run.chain(3, 3, 64, 65);
        run.chain(7, 7, 66, 67);
        run.fill(7, 22, 25);
        bucketsLevelSplit(run, 9, 1, 1);
        Run last = new Run(due).fill(31, 0, 94).fill(63, 94, 189);
        bucketsLevelSplit(last, 63, 3, 31);
        last.is(Call.bucket(31, 0), 189);
        last.fill(31, 189, 190);
        bucketsLevelSplit(last, 64, 4, 0);
        last.is(Call.bucket(31, 0), 95);
        last.is(Call.bucket(63, 0), 95);
        last.is(Call.count(4), 64 - 23 - 23);
    }

    private static void growingInTheOrderInWhichItStood() {
        due.part("GROWING: one by one in the order in which it stood");
        Run run = new Run(due);
        for (int i = 0; i < 12; i++) {
            run.fill(i % 2 == 0 ? 0 : 4, i, i + 1);
        }
        run.empty(0, 0, 1).empty(4, 5, 6);
        run.entries(11, 1, 2, 3, 4, 10, 6, 7, 8, 9);
        run.fill(1, 100, 102);
        run.is(Call.count(1), 4);
        run.fill(0, 12, 13);
        run.is(Call.count(1), 5);
        run.entries(2, 4, 10, 6, 8, 12, 100, 101, 11, 1, 3, 7, 9);
        run.chain(0, 0, 64);
        run.chain(4, 4, 65);
    }

    // ---- SHRINKING

    private static void shrinkingOverALevel() {
        due.part("SHRINKING: if S was 0, L is 1 less and S is 4 * 2^L - 1 then");
        Run run = new Run(due).fill(7, 0, 22);
        bucketsLevelSplit(run, 8, 1, 0);
        run.empty(7, 0, 10);
        bucketsLevelSplit(run, 8, 1, 0);
        run.empty(7, 10, 11);
        bucketsLevelSplit(run, 7, 0, 3);
        run.is(Call.bucket(3, 0), 11);
        run.is(Call.address(Keys.inBucket(7, 12)), 3);
        run.empty(7, 11, 12);
        bucketsLevelSplit(run, 6, 0, 2);
        Run most = new Run(due).fill(63, 0, 190).empty(63, 0, 94);
        bucketsLevelSplit(most, 64, 4, 0);
        most.is(Call.bucket(63, 0), 96);
        most.empty(63, 94, 95);
        bucketsLevelSplit(most, 63, 3, 31);
        most.is(Call.bucket(31, 0), 95);
        most.is(Call.bucket(63, 0), BAD);
    }

    private static void shrinkingJoinsInOrder() {
        due.part("SHRINKING: what bucket S had and behind that what the other one had");
        Run run = new Run(due).fill(4, 40, 43).fill(0, 0, 2).fill(1, 10, 18);
        bucketsLevelSplit(run, 5, 0, 1);
        run.empty(1, 10, 16);
        bucketsLevelSplit(run, 4, 0, 0);
        run.is(Call.page(4, 0), 0);
        run.is(Call.page(4, 2), NONE);
        run.is(Call.cell(4, 0, 0), NO);
        run.is(Call.bucket(0, 0), 5);
        run.is(Call.cell(0, 2, 0), Keys.inBucket(4, 40));
        run.is(Call.entry(0), 0);
        run.is(Call.entry(1), 1);
        run.is(Call.entry(2), 40);
        run.is(Call.entry(3), 41);
        run.is(Call.entry(4), 42);
        run.is(Call.get(Keys.inBucket(4, 42)), 42);
    }

    private static void shrinkingFreesThePagesOfTheOneThatWent() {
        due.part("SHRINKING: all spare pages of the chain of the one that went are free");
        Run run = new Run(due).fill(1, 0, 5).fill(4, 40, 45).fill(0, 20, 22).fill(1, 5, 6);
        bucketsLevelSplit(run, 5, 0, 1);
        run.chain(1, 1, 64);
        run.chain(4, 4, 65);
        run.empty(1, 0, 5);
        bucketsLevelSplit(run, 5, 0, 1);
        run.is(Call.page(64, 2), NONE);
        run.chain(4, 4, 65);
        run.empty(1, 5, 6);
        bucketsLevelSplit(run, 4, 0, 0);
        run.chain(0, 0, 64);
        run.is(Call.page(65, 2), NONE);
        run.is(Call.page(65, 0), 0);
        run.is(Call.page(4, 1), NONE);
        run.is(Call.count(4), 63);
        run.entries(20, 21, 40, 41, 42, 43, 44);
    }

    private static void shrinkingFreesThePagesOfBucketS() {
        due.part("SHRINKING: all spare pages of that of bucket S are free");
        Run run = new Run(due).fill(1, 0, 5).fill(0, 20, 25).fill(4, 40, 42).fill(1, 5, 6);
        bucketsLevelSplit(run, 5, 0, 1);
        run.empty(1, 0, 5);
        run.is(Call.page(64, 2), NONE);
        run.chain(0, 0, 65);
        run.empty(1, 5, 6);
        bucketsLevelSplit(run, 4, 0, 0);
        run.chain(0, 0, 64);
        run.is(Call.page(65, 2), NONE);
        run.is(Call.page(65, 0), 0);
        run.entries(20, 21, 22, 23, 24, 40, 41);
    }

    private static void shrinkingFreesThePagesOfBoth() {
        due.part("SHRINKING: the pages of both are free ahead of the first entry that is added");
        Run run = new Run(due).fill(1, 0, 5).fill(3, 10, 15).fill(7, 20, 25).fill(2, 30, 34).fill(0, 40, 43);
        bucketsLevelSplit(run, 8, 1, 0);
        run.empty(1, 0, 5).empty(2, 30, 34).empty(0, 40, 41);
        run.chain(3, 3, 65);
        run.chain(7, 7, 66);
        run.is(Call.page(64, 2), NONE);
        run.empty(0, 41, 42);
        bucketsLevelSplit(run, 7, 0, 3);
        run.chain(3, 3, 64, 65);
        run.is(Call.page(66, 2), NONE);
        run.is(Call.page(7, 1), NONE);
        run.is(Call.page(7, 2), NONE);
        run.entries(42, 10, 11, 12, 13, 14, 20, 21, 22, 23, 24);
    }

    private static void shrinkingEmptyBuckets() {
        due.part("SHRINKING: both have none");
        Run both = new Run(due).fill(1, 0, 13).empty(1, 0, 6);
        bucketsLevelSplit(both, 4, 0, 0);
        both.is(Call.bucket(0, 0), 0);
        both.chain(0, 0);
        both.is(Call.bucket(1, 0), 7);
        due.part("SHRINKING: bucket S alone has none");
        Run other = new Run(due).fill(4, 0, 13).empty(4, 0, 6);
        bucketsLevelSplit(other, 4, 0, 0);
        other.is(Call.bucket(0, 0), 7);
        other.chain(0, 0, 64);
        due.part("SHRINKING: the one that went alone has none");
        Run staying = new Run(due).fill(0, 0, 13).empty(0, 0, 6);
        bucketsLevelSplit(staying, 4, 0, 0);
        staying.is(Call.bucket(0, 0), 7);
        staying.chain(0, 0, 64);
    }

    private static void shrinkingToAFullPage() {
        due.part("SHRINKING: together they fill a page");
        Run run = new Run(due).fill(0, 0, 2).fill(4, 2, 4).fill(1, 4, 13).empty(1, 4, 10);
        bucketsLevelSplit(run, 4, 0, 0);
        run.chain(0, 0);
        run.is(Call.page(0, 0), 4);
        run.is(Call.count(4), 64);
    }

    private static void shrinkingTakesAPageMore() {
        due.part("SHRINKING: it takes a page more than both had");
        Run run = new Run(due).fill(0, 0, 4).fill(4, 4, 5).fill(1, 5, 13).empty(1, 5, 11);
        bucketsLevelSplit(run, 4, 0, 0);
        run.chain(0, 0, 64);
        run.is(Call.cell(64, 0, 1), 4);
        run.is(Call.count(4), 63);
    }

    /**
     * "It is not done if there would not be enough FREE pages" cannot be: fewer than 96 entries are
     * there when it shrinks, so 23 spare pages at most are in chains. This is the nearest to it.
     */
    private static void shrinkingAtTheFullest() {
        due.part("SHRINKING: it is done, there are enough free pages");
        Run run = new Run(due).fill(31, 0, 48).fill(63, 48, 95).fill(0, 95, 190);
        bucketsLevelSplit(run, 64, 4, 0);
        run.empty(0, 95, 189);
        run.is(Call.count(1), 64);
        run.is(Call.bucket(31, 1), 12);
        run.is(Call.bucket(63, 1), 12);
        run.is(Call.count(4), 64 - 22);
        run.empty(0, 189, 190);
        bucketsLevelSplit(run, 63, 3, 31);
        run.is(Call.bucket(31, 0), 95);
        run.is(Call.bucket(31, 1), 24);
        run.is(Call.count(4), 64 - 23);
        run.is(Call.count(10), 24);
    }

    // ---- WRITES

    private static void putWhereItStands() {
        due.part("WRITES: a key that is there gets another value where it stands");
        Run run = new Run(due).fill(2, 0, 12);
        run.is(Call.put(Keys.inBucket(2, 0), 100), 1);
        run.is(Call.put(Keys.inBucket(2, 5), 105), 1);
        run.is(Call.put(Keys.inBucket(2, 11), 111), 1);
        run.is(Call.put(Keys.inBucket(2, 1), 1), 1);
        run.entries(100, 1, 2, 3, 4, 105, 6, 7, 8, 9, 10, 111);
        run.is(Call.cell(64, 1, 0), Keys.inBucket(2, 5));
        run.chain(2, 2, 64, 65);
        run.is(Call.count(1), 4);
        run.is(Call.count(5), 16);
    }

    private static void putGrowsAboveThreeForEach() {
        due.part("WRITES: put, more entries than 3 for each bucket");
        Run run = new Run(due).fill(1, 0, 12);
        run.is(Call.count(1), 4);
        run.fill(1, 12, 13);
        run.is(Call.count(1), 5);
        run.fill(1, 13, 15);
        run.is(Call.count(1), 5);
        run.fill(1, 15, 16);
        run.is(Call.count(1), 6);
        run.empty(1, 15, 16).fill(1, 15, 16);
        run.is(Call.count(1), 6);
        run.fill(1, 16, 189);
        run.is(Call.count(1), 63);
        run.fill(1, 189, 190);
        run.is(Call.count(1), 64);
    }

    private static void putGrowsBelow64BucketsAlone() {
        due.part("WRITES: put, less than 64 buckets");
        Run run = with64Buckets();
        bucketsLevelSplit(run, 64, 4, 0);
        run.fill(0, 3, 4);
        bucketsLevelSplit(run, 64, 4, 0);
        run.fill(64, 100, 103);
        bucketsLevelSplit(run, 64, 4, 0);
        run.is(Call.bucket(0, 0), 7);
        run.is(Call.count(0), 196);
    }

    private static void removeShrinksBelowHalf() {
        due.part("WRITES: remove, twice the entries are less than 3 for each bucket");
        Run run = new Run(due).fill(1, 0, 16);
        run.is(Call.count(1), 6);
        run.empty(1, 0, 7);
        run.is(Call.count(0), 9);
        run.is(Call.count(1), 6);
        run.empty(1, 7, 8);
        run.is(Call.count(1), 5);
        run.empty(1, 8, 9);
        run.is(Call.count(0), 7);
        run.is(Call.count(1), 4);
    }

    private static void removeShrinksAboveFourAlone() {
        due.part("WRITES: remove, more than 4 buckets");
        Run run = new Run(due).fill(1, 0, 7).empty(1, 0, 2);
        bucketsLevelSplit(run, 4, 0, 0);
        run.empty(1, 2, 7);
        bucketsLevelSplit(run, 4, 0, 0);
        run.is(Call.count(0), 0);
        Run five = new Run(due).fill(1, 0, 13).empty(1, 0, 6);
        bucketsLevelSplit(five, 4, 0, 0);
        five.empty(1, 6, 13);
        bucketsLevelSplit(five, 4, 0, 0);
    }
}
