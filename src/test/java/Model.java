import java.util.ArrayList;
import java.util.List;
import java.util.TreeSet;

/**
 * The document once more, in another form: chains are lists, LEVEL and SPLIT are reckoned from the
 * number of buckets, and what the store was behind each write is kept as a copy.
 */
final class Model {
    private static final int BAD = PageBuckets.BAD, NO = PageBuckets.NO, FULL = PageBuckets.FULL;
    private static final int LOG = PageBuckets.LOG, NONE = PageBuckets.NONE;

    private record Entry(int key, int value) {
    }

    private static final class State {
        final List<List<Entry>> chains = new ArrayList<>();
        final List<List<Integer>> pages = new ArrayList<>();
        final TreeSet<Integer> free = new TreeSet<>();
        int buckets = 4;

        State() {
            for (int b = 0; b < 64; b++) {
                chains.add(new ArrayList<>());
                pages.add(new ArrayList<>(List.of(b)));
                free.add(64 + b);
            }
        }

        State(State other) {
            for (int b = 0; b < 64; b++) {
                chains.add(new ArrayList<>(other.chains.get(b)));
                pages.add(new ArrayList<>(other.pages.get(b)));
            }
            free.addAll(other.free);
            buckets = other.buckets;
        }
    }

    private State state = new State();
    private State kept = new State();
    private final List<State> behindWrite = new ArrayList<>();
    private final List<Integer> groupSizes = new ArrayList<>();
    private int openWrites = -1;
    private int read;
    private int standing;

    int put(int key, int value) {
        if (value < 0 || value > 1000000000) {
            return BAD;
        }
        int b = address(key);
        int at = placeOf(key);
        List<Entry> chain = state.chains.get(b);
        if (at < 0 && !chain.isEmpty() && chain.size() % 4 == 0 && state.free.isEmpty()) {
            return FULL;
        }
        if (behindWrite.size() == 64) {
            return LOG;
        }
        if (at >= 0) {
            chain.set(at, new Entry(key, value));
        } else {
            add(b, new Entry(key, value));
            if (entries() > 3 * state.buckets && state.buckets < 64) {
                grow();
            }
        }
        written();
        return at >= 0 ? 1 : 0;
    }

    int remove(int key) {
        int at = placeOf(key);
        if (at < 0) {
            return NONE;
        }
        if (behindWrite.size() == 64) {
            return LOG;
        }
        int b = address(key);
        List<Entry> chain = state.chains.get(b);
        int value = chain.get(at).value();
        Entry lastOne = chain.remove(chain.size() - 1);
        if (at < chain.size()) {
            chain.set(at, lastOne);
        }
        if (chain.size() % 4 == 0 && !chain.isEmpty()) {
            List<Integer> pages = state.pages.get(b);
            state.free.add(pages.remove(pages.size() - 1));
        }
        if (state.buckets > 4 && 2 * entries() < 3 * state.buckets) {
            shrink();
        }
        written();
        return value;
    }

    int get(int key) {
        int at = placeOf(key);
        int b = address(key);
        read += at < 0 ? state.pages.get(b).size() : at / 4 + 1;
        return at < 0 ? NONE : state.chains.get(b).get(at).value();
    }

    int begin() {
        if (openWrites >= 0) {
            return NO;
        }
        openWrites = 0;
        return 0;
    }

    int end() {
        if (openWrites < 0) {
            return NO;
        }
        int writes = openWrites;
        if (writes > 0) {
            groupSizes.add(writes);
        }
        openWrites = -1;
        return writes;
    }

    int undo() {
        if (openWrites < 0) {
            return NO;
        }
        int never = openWrites;
        openWrites = -1;
        dropLast(never);
        return never;
    }

    int keep() {
        if (openWrites >= 0) {
            return NO;
        }
        int writes = behindWrite.size();
        keepAll();
        return writes;
    }

    int stop(int n) {
        if (n < 0) {
            return BAD;
        }
        int stay = 0;
        for (int g = 0; g < n && g < groupSizes.size(); g++) {
            stay += groupSizes.get(g);
        }
        int never = behindWrite.size() - stay;
        dropLast(never);
        keepAll();
        return never;
    }

    int address(int key) {
        long hash = (key * 2654435769L) & 0xffffffffL;
        hash ^= hash >> 15;
        long low = hash % round();
        return (int) (low < state.buckets - round() ? hash % (2L * round()) : low);
    }

    int bucket(int b, int what) {
        if (b < 0 || b >= state.buckets || what < 0 || what > 2) {
            return BAD;
        }
        List<Integer> pages = state.pages.get(b);
        return what == 0 ? state.chains.get(b).size() : what == 1 ? pages.size() : pages.get(pages.size() - 1);
    }

    int page(int p, int what) {
        if (p < 0 || p > 127 || what < 0 || what > 2) {
            return BAD;
        }
        for (int b = 0; b < state.buckets; b++) {
            List<Integer> pages = state.pages.get(b);
            int at = pages.indexOf(p);
            if (at >= 0) {
                int behind = at + 1 < pages.size() ? pages.get(at + 1) : NONE;
                return what == 0 ? Math.min(4, state.chains.get(b).size() - 4 * at) : what == 1 ? behind : b;
            }
        }
        return what == 0 ? 0 : NONE;
    }

    int cell(int p, int i, int what) {
        if (p < 0 || p > 127 || i < 0 || i > 3 || what < 0 || what > 1) {
            return BAD;
        }
        int b = page(p, 2);
        if (b == NONE || i >= page(p, 0)) {
            return NO;
        }
        Entry found = state.chains.get(b).get(4 * state.pages.get(b).indexOf(p) + i);
        return what == 0 ? found.key() : found.value();
    }

    int entry(int i) {
        if (i < 0) {
            return BAD;
        }
        List<Entry> all = new ArrayList<>();
        for (int b = 0; b < state.buckets; b++) {
            all.addAll(state.chains.get(b));
        }
        return i < all.size() ? all.get(i).value() : NONE;
    }

    int effort() {
        int sum = 0;
        for (List<Entry> chain : state.chains) {
            for (int i = 0; i < chain.size(); i++) {
                sum += i / 4 + 1;
            }
        }
        return sum;
    }

    int count(int what) {
        return switch (what) {
            case 0 -> entries();
            case 1 -> state.buckets;
            case 2 -> Integer.numberOfTrailingZeros(round()) - 2;
            case 3 -> state.buckets - round();
            case 4 -> state.free.size();
            case 5 -> behindWrite.size();
            case 6 -> groupSizes.size();
            case 7 -> openWrites >= 0 ? 1 : 0;
            case 8 -> read;
            case 9 -> standing;
            case 10 -> state.pages.stream().mapToInt(List::size).max().orElse(0);
            default -> BAD;
        };
    }

    private int round() {
        return Integer.highestOneBit(state.buckets);
    }

    private int entries() {
        return state.chains.stream().mapToInt(List::size).sum();
    }

    private int placeOf(int key) {
        List<Entry> chain = state.chains.get(address(key));
        for (int i = 0; i < chain.size(); i++) {
            if (chain.get(i).key() == key) {
                return i;
            }
        }
        return -1;
    }

    private void add(int b, Entry entry) {
        List<Entry> chain = state.chains.get(b);
        if (!chain.isEmpty() && chain.size() % 4 == 0) {
            state.pages.get(b).add(state.free.pollFirst());
        }
        chain.add(entry);
    }

    private List<Entry> emptied(int b) {
        List<Entry> had = new ArrayList<>(state.chains.get(b));
        List<Integer> pages = state.pages.get(b);
        state.chains.get(b).clear();
        state.free.addAll(pages.subList(1, pages.size()));
        pages.subList(1, pages.size()).clear();
        return had;
    }

    private void grow() {
        List<Entry> had = emptied(state.buckets - round());
        state.buckets++;
        for (Entry entry : had) {
            add(address(entry.key()), entry);
        }
    }

    private void shrink() {
        int going = state.buckets - 1;
        int staying = going - Integer.highestOneBit(going);
        state.buckets--;
        List<Entry> had = emptied(staying);
        had.addAll(emptied(going));
        for (Entry entry : had) {
            add(staying, entry);
        }
    }

    private void written() {
        behindWrite.add(new State(state));
        standing++;
        if (openWrites >= 0) {
            openWrites++;
        } else {
            groupSizes.add(1);
        }
    }

    private void dropLast(int never) {
        for (int i = 0; i < never; i++) {
            behindWrite.remove(behindWrite.size() - 1);
        }
        standing -= never;
        state = new State(behindWrite.isEmpty() ? kept : behindWrite.get(behindWrite.size() - 1));
    }

    private void keepAll() {
        kept = new State(state);
        behindWrite.clear();
        groupSizes.clear();
        openWrites = -1;
    }
}
