/** Compares answers with those that are due, prints the others and counts them. */
final class Due {
    private static final int PRINTED_AT_MOST = 50;
    private String place = "";
    private int asked = 0;
    private int failed = 0;

    /** Names the case that the next answers belong to. */
    void enter(String name) {
        place = name + ": ";
    }

    void same(String call, long got, long want) {
        asked++;
        if (got != want) {
            fail(call + " answered " + got + ", due is " + want);
        }
    }

    void yes(String call, boolean got) {
        same(call, got ? 1 : 0, 1);
    }

    void no(String call, boolean got) {
        same(call, got ? 1 : 0, 0);
    }

    void fail(String text) {
        failed++;
        if (failed <= PRINTED_AT_MOST) {
            System.out.println(place + text);
        }
    }

    void end() {
        System.out.println(asked + " answers, " + failed + " not as due");
        if (failed != 0 || asked == 0) {
            System.exit(1);
        }
    }
}
