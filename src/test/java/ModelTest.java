import java.util.ArrayList;
import java.util.List;
import java.util.Random;

/**
 * All promises: runs of drawn calls (the same ones each time), on an object and on the model; then
 * all that can be looked at behind each run. No object gets more than 512 calls.
 */
public final class ModelTest {
    private static final int CALLS_OF_AN_OBJECT = Run.CALLS_OF_AN_OBJECT;
    private static final Due due = new Due();

    public static void main(String[] args) {
        for (int run = 0; run < 2500 && due.allRight(); run++) {
            due.part("run " + run);
            Random random = new Random(run);
            mixedRun(random);
        }
        for (int run = 0; run < 150 && due.allRight(); run++) {
            due.part("long run " + run);
            wholeLookRun(new Random(run));
        }
        for (int run = 0; run < 20 && due.allRight(); run++) {
            due.part("odd run " + run);
            oddRun(new Random(run));
        }
        due.part("beyond 512 calls");
        for (int run = 0; run < 20; run++) {
            runBeyondTheLastCall(new Random(run));
        }
        due.finish();
    }

    /** Writes and looks in turn, 512 calls. */
    private static void mixedRun(Random random) {
        Profile profile = new Profile(random);
        PageBuckets x = new PageBuckets();
        Model model = new Model();
        for (int i = 0; i < CALLS_OF_AN_OBJECT; i++) {
            Call call = random.nextInt(100) < profile.looks ? profile.look(random) : profile.write(random);
            compare(x, model, call);
        }
    }

    /** Writes alone; then the object is made again as often as it takes to look at everything. */
    private static void wholeLookRun(Random random) {
        Profile profile = new Profile(random);
        List<Call> writes = new ArrayList<>();
        int length = 50 + random.nextInt(400);
        for (int i = 0; i < length; i++) {
            writes.add(profile.write(random));
        }
        List<Call> looks = Call.looksAtAll();
        int from = 0;
        while (from < looks.size() && due.allRight()) {
            PageBuckets x = new PageBuckets();
            Model model = new Model();
            for (Call call : writes) {
                compare(x, model, call);
            }
            int to = Math.min(looks.size(), from + CALLS_OF_AN_OBJECT - length);
            for (Call call : looks.subList(from, to)) {
                compare(x, model, call);
            }
            from = to;
        }
    }

    /** Some writes; then every call with all odd numbers in every place, on as many objects as it takes. */
    private static void oddRun(Random random) {
        Profile profile = new Profile(random);
        List<Call> writes = new ArrayList<>();
        for (int i = 0; i < 200; i++) {
            writes.add(profile.write(random));
        }
        PageBuckets x = new PageBuckets();
        Model model = new Model();
        int calls = CALLS_OF_AN_OBJECT;
        for (Call call : Profile.oddCalls()) {
            if (calls == CALLS_OF_AN_OBJECT) {
                x = new PageBuckets();
                model = new Model();
                for (Call write : writes) {
                    compare(x, model, write);
                }
                calls = writes.size();
            }
            compare(x, model, call);
            calls++;
        }
    }

    /** What calls answer behind the last one that is promised is free, but they must not throw, and must end. */
    private static void runBeyondTheLastCall(Random random) {
        Profile profile = new Profile(random);
        PageBuckets x = new PageBuckets();
        for (int i = 0; i < 20 * CALLS_OF_AN_OBJECT; i++) {
            Call call = random.nextInt(100) < profile.looks ? profile.look(random) : profile.write(random);
            call.on(x);
        }
    }

    private static void compare(PageBuckets x, Model model, Call call) {
        due.is(call.toString(), call.on(x), call.on(model));
    }

    /** How a run draws its calls: how many keys, how they crowd, how many of each kind, how it fills and empties in turn. */
    private static final class Profile {
        private static final int[] ODD = {0, 1, 2, 3, 4, 10, 11, -1, 63, 64, 127, 128, Integer.MIN_VALUE,
            Integer.MAX_VALUE, PageBuckets.BAD, PageBuckets.NO, PageBuckets.FULL, PageBuckets.LOG, PageBuckets.NONE,
            1000000000, 1000000001};

        final int looks;
        private final int keys;
        private final int crowd;
        private final int stride;
        private final int removes;
        private final int tide;
        private final int groups;
        private final int keeps;
        private int fresh;
        private int written;

        Profile(Random random) {
            looks = new int[] {5, 30, 60}[random.nextInt(3)];
            keys = new int[] {5, 20, 60, 300, 0, 0}[random.nextInt(6)];
            crowd = new int[] {1, 2, 4, 8, 64}[random.nextInt(5)];
            stride = new int[] {1, 3, 8}[random.nextInt(3)];
            removes = new int[] {2, 15, 30, 50}[random.nextInt(4)];
            tide = new int[] {40, 100, 1000}[random.nextInt(3)];
            groups = new int[] {0, 3, 15}[random.nextInt(3)];
            keeps = new int[] {1, 3, 10}[random.nextInt(3)];
        }

        static List<Call> oddCalls() {
            List<Call> calls = new ArrayList<>();
            for (int a : ODD) {
                calls.addAll(List.of(Call.get(a), Call.remove(a), Call.address(a), Call.entry(a), Call.count(a), Call.stop(a)));
                for (int b : ODD) {
                    calls.addAll(List.of(Call.put(a, b), Call.bucket(a, b), Call.page(a, b)));
                    for (int c : ODD) {
                        calls.add(Call.cell(a, b, c));
                    }
                }
            }
            return calls;
        }

        Call write(Random random) {
            int drawn = random.nextInt(100);
            if (drawn < keeps) {
                return random.nextInt(4) == 0 ? drawnStop(random) : Call.keep();
            }
            if (drawn < keeps + groups) {
                int kind = random.nextInt(12);
                return kind < 5 ? Call.begin() : kind < 9 ? Call.end() : Call.undo();
            }
            written++;
            boolean ebb = written / tide % 2 == 1;
            if (random.nextInt(100) < (ebb ? 95 : removes)) {
                return Call.remove(keyThatWas(random));
            }
            return Call.put(key(random), value(random));
        }

        Call look(Random random) {
            return switch (random.nextInt(8)) {
                case 0 -> Call.get(key(random));
                case 1 -> Call.address(key(random));
                case 2 -> Call.bucket(number(random, 66), what(random, 3));
                case 3 -> Call.page(number(random, 128), what(random, 3));
                case 4 -> Call.cell(number(random, 128), what(random, 4), what(random, 2));
                case 5 -> Call.entry(number(random, 300));
                case 6 -> Call.effort();
                default -> Call.count(what(random, 11));
            };
        }

        private Call drawnStop(Random random) {
            return Call.stop(random.nextInt(20) == 0 ? odd(random) : random.nextInt(30));
        }

        private int key(Random random) {
            if (random.nextInt(50) == 0) {
                return odd(random);
            }
            if (keys != 0) {
                return numbered(random.nextInt(keys));
            }
            return numbered(random.nextInt(4) == 0 ? random.nextInt(1 + fresh) : fresh++);
        }

        private int keyThatWas(Random random) {
            return keys != 0 ? key(random) : numbered(random.nextInt(1 + fresh));
        }

        private int numbered(int i) {
            return crowd == 64 ? i * 7 - 100 : Keys.inBucket(i % crowd * stride, i);
        }

        private int value(Random random) {
            return random.nextInt(40) == 0 ? odd(random) : random.nextInt(1000);
        }

        private int number(Random random, int bound) {
            return random.nextInt(20) == 0 ? odd(random) : random.nextInt(bound);
        }

        private int what(Random random, int bound) {
            return random.nextInt(40) == 0 ? odd(random) : random.nextInt(bound);
        }

        private static int odd(Random random) {
            return ODD[random.nextInt(ODD.length)];
        }
    }
}
