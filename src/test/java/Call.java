import java.util.ArrayList;
import java.util.List;

/** A call with its arguments, so that a run of calls can be done again on another object. */
record Call(Name name, int a, int b, int c) {
    enum Name {
        PUT(2), REMOVE(1), GET(1), BEGIN(0), END(0), UNDO(0), KEEP(0), STOP(1),
        ADDRESS(1), BUCKET(2), PAGE(2), CELL(3), ENTRY(1), EFFORT(0), COUNT(1);

        final int arguments;

        Name(int arguments) {
            this.arguments = arguments;
        }
    }

    static Call put(int key, int value) {
        return new Call(Name.PUT, key, value, 0);
    }

    static Call remove(int key) {
        return new Call(Name.REMOVE, key, 0, 0);
    }

    static Call get(int key) {
        return new Call(Name.GET, key, 0, 0);
    }

    static Call begin() {
        return new Call(Name.BEGIN, 0, 0, 0);
    }

    static Call end() {
        return new Call(Name.END, 0, 0, 0);
    }

    static Call undo() {
        return new Call(Name.UNDO, 0, 0, 0);
    }

    static Call keep() {
        return new Call(Name.KEEP, 0, 0, 0);
    }

    static Call stop(int n) {
        return new Call(Name.STOP, n, 0, 0);
    }

    static Call address(int key) {
        return new Call(Name.ADDRESS, key, 0, 0);
    }

    static Call bucket(int b, int what) {
        return new Call(Name.BUCKET, b, what, 0);
    }

    static Call page(int p, int what) {
        return new Call(Name.PAGE, p, what, 0);
    }

    static Call cell(int p, int i, int what) {
        return new Call(Name.CELL, p, i, what);
    }

    static Call entry(int i) {
        return new Call(Name.ENTRY, i, 0, 0);
    }

    static Call effort() {
        return new Call(Name.EFFORT, 0, 0, 0);
    }

    static Call count(int what) {
        return new Call(Name.COUNT, what, 0, 0);
    }

    /** All that can be looked at in the pages, cells and links, without a change (get counts pages, so it is left out). */
    static List<Call> looksAtTheStore() {
        List<Call> looks = new ArrayList<>();
        for (int what = 0; what <= 4; what++) {
            looks.add(count(what));
        }
        looks.add(count(10));
        looks.add(effort());
        for (int what = 0; what < 3; what++) {
            for (int b = -1; b <= 64; b++) {
                looks.add(bucket(b, what));
            }
            for (int p = -1; p <= 128; p++) {
                looks.add(page(p, what));
            }
        }
        for (int i = -1; i < 300; i++) {
            looks.add(entry(i));
        }
        for (int p = 0; p < 128; p++) {
            for (int i = 0; i < 4; i++) {
                looks.add(cell(p, i, 0));
                looks.add(cell(p, i, 1));
            }
        }
        return looks;
    }

    /** The store, and what is counted beside it: journal, groups, pages read, writes. */
    static List<Call> looksAtAll() {
        List<Call> looks = looksAtTheStore();
        for (int what = 5; what <= 9; what++) {
            looks.add(count(what));
        }
        return looks;
    }

    int on(PageBuckets x) {
        return switch (name) {
            case PUT -> x.put(a, b);
            case REMOVE -> x.remove(a);
            case GET -> x.get(a);
            case BEGIN -> x.begin();
            case END -> x.end();
            case UNDO -> x.undo();
            case KEEP -> x.keep();
            case STOP -> x.stop(a);
            case ADDRESS -> x.address(a);
            case BUCKET -> x.bucket(a, b);
            case PAGE -> x.page(a, b);
            case CELL -> x.cell(a, b, c);
            case ENTRY -> x.entry(a);
            case EFFORT -> x.effort();
            case COUNT -> x.count(a);
        };
    }

    int on(Model x) {
        return switch (name) {
            case PUT -> x.put(a, b);
            case REMOVE -> x.remove(a);
            case GET -> x.get(a);
            case BEGIN -> x.begin();
            case END -> x.end();
            case UNDO -> x.undo();
            case KEEP -> x.keep();
            case STOP -> x.stop(a);
            case ADDRESS -> x.address(a);
            case BUCKET -> x.bucket(a, b);
            case PAGE -> x.page(a, b);
            case CELL -> x.cell(a, b, c);
            case ENTRY -> x.entry(a);
            case EFFORT -> x.effort();
            case COUNT -> x.count(a);
        };
    }

    @Override
    public String toString() {
        String[] told = {"", "" + a, a + ", " + b, a + ", " + b + ", " + c};
        return name.name().toLowerCase() + "(" + told[name.arguments] + ")";
    }
}
