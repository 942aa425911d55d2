/** Keys that are chosen by their hash, so that a test can say in which bucket they stand. */
final class Keys {
    private static final int FACTOR = -1640531527;

    private Keys() {
    }

    /** The one key whose hash is this number. */
    static int withHash(int hash) {
        int product = hash ^ (hash >>> 15) ^ (hash >>> 30);
        return product * inverseOfFactor();
    }

    /** The i-th of the keys that stand in bucket 0 .. 63 as soon as there are 64 buckets. */
    static int inBucket(int bucket, int i) {
        return withHash(bucket + 64 * i);
    }

    private static int inverseOfFactor() {
        int inverse = FACTOR;
        for (int round = 0; round < 5; round++) {
            inverse *= 2 - FACTOR * inverse;
        }
        return inverse;
    }
}
