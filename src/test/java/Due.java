/** Counts and prints the answers that are not the ones that are due. */
final class Due {
    private int wrong;
    private String part = "";

    /** Names what the next answers belong to. */
    void part(String name) {
        part = name;
    }

    void is(String call, long got, long want) {
        if (got != want) {
            fail(call + " answered " + got + ", due is " + want);
        }
    }

    void fail(String what) {
        wrong++;
        if (wrong <= 50) {
            System.out.println(part + ": " + what);
        }
    }

    boolean allRight() {
        return wrong == 0;
    }

    void finish() {
        if (wrong != 0) {
            System.out.println(wrong + " answers are not as due");
            System.exit(1);
        }
        System.out.println("all answers are as due");
    }
}
