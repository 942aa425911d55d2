import java.util.ArrayList;
import java.util.List;

/**
 * A run of calls on a new object. It knows its calls, so that it can be done again: that is how all
 * of a store is looked at though an object is good for 512 calls alone.
 */
final class Run {
    static final int CALLS_OF_AN_OBJECT = 512;

    /** What shows the state that no look shows: what is kept, and where groups end. */
    private static final List<List<Call>> TAILS = List.of(List.of(), List.of(Call.stop(0)), List.of(Call.stop(1)),
        List.of(Call.undo()), List.of(Call.end(), Call.stop(1)), List.of(Call.keep(), Call.stop(0)));

    private final Due due;
    private final PageBuckets x = new PageBuckets();
    // Tells how full the journal is without a call to the object.
    private final Model model = new Model();
    private final List<Call> done = new ArrayList<>();

    Run(Due due) {
        this.due = due;
    }

    /** Does calls whose answers belong to another test. */
    Run with(Call... calls) {
        for (Call call : calls) {
            answer(call);
        }
        return this;
    }

    /** Puts the keys from .. to - 1 of those that stand in that bucket of 64; their values are their numbers. */
    Run fill(int bucket, int from, int to) {
        for (int i = from; i < to; i++) {
            makeRoom();
            is(Call.put(Keys.inBucket(bucket, i), i), 0);
        }
        return this;
    }

    /** Takes them away again. */
    Run empty(int bucket, int from, int to) {
        for (int i = from; i < to; i++) {
            makeRoom();
            is(Call.remove(Keys.inBucket(bucket, i)), i);
        }
        return this;
    }

    /** Writes to the journal until it has 64; the key is there already. */
    Run fillJournal(int key) {
        for (int writes = model.count(5); writes < 64; writes++) {
            is(Call.put(key, 0), 1);
        }
        return this;
    }

    private void makeRoom() {
        if (model.count(5) == 64) {
            is(Call.keep(), 64);
        }
    }

    void is(Call call, int want) {
        due.is(call.toString(), answer(call), want);
    }

    /** count(0), count(1) and so on. */
    void counts(int... wanted) {
        for (int what = 0; what < wanted.length; what++) {
            is(Call.count(what), wanted[what]);
        }
    }

    /** The values of all entries, in order, and no more of them. */
    void entries(int... wanted) {
        for (int i = 0; i < wanted.length; i++) {
            is(Call.entry(i), wanted[i]);
        }
        is(Call.entry(wanted.length), PageBuckets.NONE);
    }

    /** The pages of a bucket's chain, in order, and no more of them. */
    void chain(int bucket, int... pages) {
        is(Call.bucket(bucket, 1), pages.length);
        is(Call.bucket(bucket, 2), pages[pages.length - 1]);
        for (int i = 0; i < pages.length; i++) {
            is(Call.page(pages[i], 1), i + 1 < pages.length ? pages[i + 1] : PageBuckets.NONE);
            is(Call.page(pages[i], 2), bucket);
        }
    }

    /** The call answers that, and behind it all is as if it had not been. */
    void changesNothing(Call call, int want) {
        List<Call> without = new ArrayList<>(done);
        is(call, want);
        List<Call> looks = Call.looksAtAll();
        for (List<Call> tail : TAILS) {
            sameLooks(call + ", then " + tail, looks, joined(without, tail), joined(done, tail));
        }
    }

    /** Behind both runs the pages, cells, links, LEVEL and SPLIT are the same. */
    void sameStoreAs(Run other) {
        sameLooks("the other run", Call.looksAtTheStore(), other.done, done);
    }

    /** Behind both runs all is the same, for every call that may come. */
    void sameAs(Run other) {
        for (List<Call> tail : TAILS) {
            sameLooks("the other run, then " + tail, Call.looksAtAll(), joined(other.done, tail), joined(done, tail));
        }
    }

    private void sameLooks(String told, List<Call> looks, List<Call> wanted, List<Call> got) {
        int[] right = answers(looks, wanted);
        int[] answered = answers(looks, got);
        for (int i = 0; i < right.length; i++) {
            due.is("behind " + told + ": " + looks.get(i), answered[i], right[i]);
        }
    }

    private static int[] answers(List<Call> looks, List<Call> run) {
        int[] answers = new int[looks.size()];
        int room = CALLS_OF_AN_OBJECT - run.size();
        if (room < 1) {
            throw new IllegalStateException("a run of " + run.size() + " calls leaves no room for looks");
        }
        for (int from = 0; from < answers.length; from += room) {
            PageBuckets x = new PageBuckets();
            for (Call call : run) {
                call.on(x);
            }
            for (int i = from; i < answers.length && i < from + room; i++) {
                answers[i] = looks.get(i).on(x);
            }
        }
        return answers;
    }

    private static List<Call> joined(List<Call> run, List<Call> tail) {
        List<Call> both = new ArrayList<>(run);
        both.addAll(tail);
        return both;
    }

    private int answer(Call call) {
        if (done.size() == CALLS_OF_AN_OBJECT) {
            throw new IllegalStateException("the test makes more calls than an object is good for");
        }
        done.add(call);
        call.on(model);
        return call.on(x);
    }
}
