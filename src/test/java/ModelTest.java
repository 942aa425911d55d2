import java.util.ArrayList;
import java.util.List;
import java.util.Random;

/**
 * All promises: runs of drawn calls (the same ones each time), on an object and on the model; then
 * all that can be looked at behind each run. No object gets more than 512 calls.
 */
public final class ModelTest {
    private static final int CALLS_OF_AN_OBJECT = 512;
    private static final int PUT = 0, REMOVE = 1, GET = 2, BEGIN = 3, END = 4, UNDO = 5, KEEP = 6, STOP = 7;
    private static final int ADDRESS = 8, BUCKET = 9, PAGE = 10, CELL = 11, ENTRY = 12, EFFORT = 13, COUNT = 14;
    private static final String[] NAMES = {"put", "remove", "get", "begin", "end", "undo", "keep", "stop",
        "address", "bucket", "page", "cell", "entry", "effort", "count"};
    private static final Due due = new Due();

    private record Call(int name, int a, int b, int c) {
    }

    public static void main(String[] args) {
        for (int run = 0; run < 2500 && due.allRight(); run++) {
            due.part("run " + run);
            Random random = new Random(run);
            mixedRun(random);
        }
        for (int run = 0; run < 150 && due.allRight(); run++) {
            due.part("long run " + run);
            wholeLookRun(new Random(run));
        }
        due.finish();
    }

    /** Writes and looks in turn, 512 calls. */
    private static void mixedRun(Random random) {
        Profile profile = new Profile(random);
        PageBuckets x = new PageBuckets();
        Model model = new Model();
        for (int i = 0; i < CALLS_OF_AN_OBJECT; i++) {
            Call call = random.nextInt(100) < profile.looks ? profile.look(random) : profile.write(random);
            compare(x, model, call);
        }
    }

    /** Writes alone; then the object is made again as often as it takes to look at everything. */
    private static void wholeLookRun(Random random) {
        Profile profile = new Profile(random);
        List<Call> writes = new ArrayList<>();
        int length = 50 + random.nextInt(400);
        for (int i = 0; i < length; i++) {
            writes.add(profile.write(random));
        }
        List<Call> looks = allLooks();
        int from = 0;
        while (from < looks.size() && due.allRight()) {
            PageBuckets x = new PageBuckets();
            Model model = new Model();
            for (Call call : writes) {
                compare(x, model, call);
            }
            int to = Math.min(looks.size(), from + CALLS_OF_AN_OBJECT - length);
            for (Call call : looks.subList(from, to)) {
                compare(x, model, call);
            }
            from = to;
        }
    }

    private static List<Call> allLooks() {
        List<Call> looks = new ArrayList<>();
        for (int what = -1; what <= 11; what++) {
            looks.add(new Call(COUNT, what, 0, 0));
        }
        looks.add(new Call(EFFORT, 0, 0, 0));
        for (int what = 0; what < 3; what++) {
            for (int b = -1; b <= 64; b++) {
                looks.add(new Call(BUCKET, b, what, 0));
            }
            for (int p = -1; p <= 128; p++) {
                looks.add(new Call(PAGE, p, what, 0));
            }
        }
        for (int i = -1; i < 300; i++) {
            looks.add(new Call(ENTRY, i, 0, 0));
        }
        for (int p = 0; p < 128; p++) {
            for (int i = 0; i < 4; i++) {
                looks.add(new Call(CELL, p, i, 0));
                looks.add(new Call(CELL, p, i, 1));
            }
        }
        return looks;
    }

    private static void compare(PageBuckets x, Model model, Call call) {
        String told = NAMES[call.name()] + "(" + call.a() + ", " + call.b() + ", " + call.c() + ")";
        due.is(told, answer(x, call), wanted(model, call));
    }

    private static int answer(PageBuckets x, Call call) {
        return switch (call.name()) {
            case PUT -> x.put(call.a(), call.b());
            case REMOVE -> x.remove(call.a());
            case GET -> x.get(call.a());
            case BEGIN -> x.begin();
            case END -> x.end();
            case UNDO -> x.undo();
            case KEEP -> x.keep();
            case STOP -> x.stop(call.a());
            case ADDRESS -> x.address(call.a());
            case BUCKET -> x.bucket(call.a(), call.b());
            case PAGE -> x.page(call.a(), call.b());
            case CELL -> x.cell(call.a(), call.b(), call.c());
            case ENTRY -> x.entry(call.a());
            case EFFORT -> x.effort();
            default -> x.count(call.a());
        };
    }

    private static int wanted(Model x, Call call) {
        return switch (call.name()) {
            case PUT -> x.put(call.a(), call.b());
            case REMOVE -> x.remove(call.a());
            case GET -> x.get(call.a());
            case BEGIN -> x.begin();
            case END -> x.end();
            case UNDO -> x.undo();
            case KEEP -> x.keep();
            case STOP -> x.stop(call.a());
            case ADDRESS -> x.address(call.a());
            case BUCKET -> x.bucket(call.a(), call.b());
            case PAGE -> x.page(call.a(), call.b());
            case CELL -> x.cell(call.a(), call.b(), call.c());
            case ENTRY -> x.entry(call.a());
            case EFFORT -> x.effort();
            default -> x.count(call.a());
        };
    }

    /** How a run draws its calls: how many keys, how they crowd, how many of each kind, how it fills and empties in turn. */
    private static final class Profile {
        private static final int[] ODD = {0, 1, -1, 63, 64, 127, 128, Integer.MIN_VALUE, Integer.MAX_VALUE,
            PageBuckets.BAD, PageBuckets.NO, PageBuckets.FULL, PageBuckets.LOG, PageBuckets.NONE, 1000000000, 1000000001};

        final int looks;
        private final int keys;
        private final int crowd;
        private final int stride;
        private final int removes;
        private final int tide;
        private final int groups;
        private final int keeps;
        private int fresh;
        private int written;

        Profile(Random random) {
            looks = new int[] {5, 30, 60}[random.nextInt(3)];
            keys = new int[] {5, 20, 60, 300, 0, 0}[random.nextInt(6)];
            crowd = new int[] {1, 2, 4, 8, 64}[random.nextInt(5)];
            stride = new int[] {1, 3, 8}[random.nextInt(3)];
            removes = new int[] {2, 15, 30, 50}[random.nextInt(4)];
            tide = new int[] {40, 100, 1000}[random.nextInt(3)];
            groups = new int[] {0, 3, 15}[random.nextInt(3)];
            keeps = new int[] {1, 3, 10}[random.nextInt(3)];
        }

        Call write(Random random) {
            int drawn = random.nextInt(100);
            if (drawn < keeps) {
                return random.nextInt(4) == 0 ? stop(random) : new Call(KEEP, 0, 0, 0);
            }
            if (drawn < keeps + groups) {
                int kind = random.nextInt(12);
                return new Call(kind < 5 ? BEGIN : kind < 9 ? END : UNDO, 0, 0, 0);
            }
            written++;
            boolean ebb = written / tide % 2 == 1;
            if (random.nextInt(100) < (ebb ? 95 : removes)) {
                return new Call(REMOVE, keyThatWas(random), 0, 0);
            }
            return new Call(PUT, key(random), value(random), 0);
        }

        Call look(Random random) {
            int kind = GET + random.nextInt(8);
            switch (kind) {
                case GET: return new Call(GET, key(random), 0, 0);
                case 3: return new Call(ADDRESS, key(random), 0, 0);
                case 4: return new Call(BUCKET, number(random, 66), what(random, 3), 0);
                case 5: return new Call(PAGE, number(random, 128), what(random, 3), 0);
                case 6: return new Call(CELL, number(random, 128), what(random, 4), what(random, 2));
                case 7: return new Call(ENTRY, number(random, 300), 0, 0);
                case 8: return new Call(EFFORT, 0, 0, 0);
                default: return new Call(COUNT, what(random, 11), 0, 0);
            }
        }

        private Call stop(Random random) {
            int n = random.nextInt(20) == 0 ? odd(random) : random.nextInt(30);
            return new Call(STOP, n, 0, 0);
        }

        private int key(Random random) {
            if (random.nextInt(50) == 0) {
                return odd(random);
            }
            if (keys != 0) {
                return numbered(random.nextInt(keys));
            }
            return numbered(random.nextInt(4) == 0 ? random.nextInt(1 + fresh) : fresh++);
        }

        private int keyThatWas(Random random) {
            return keys != 0 ? key(random) : numbered(random.nextInt(1 + fresh));
        }

        private int numbered(int i) {
            return crowd == 64 ? i * 7 - 100 : Keys.inBucket(i % crowd * stride, i);
        }

        private int value(Random random) {
            return random.nextInt(40) == 0 ? odd(random) : random.nextInt(1000);
        }

        private int number(Random random, int bound) {
            return random.nextInt(20) == 0 ? odd(random) : random.nextInt(bound);
        }

        private int what(Random random, int bound) {
            return random.nextInt(40) == 0 ? odd(random) : random.nextInt(bound);
        }

        private static int odd(Random random) {
            return ODD[random.nextInt(ODD.length)];
        }
    }
}
