/** Compares answers with those that are due, prints each that isn't, and ends with exit code 1 if there was one. */
final class Due {
    static final int BEYOND = -1000001;
    static final int FULL = -1000002;
    static final int KIND = -1000003;
    static final int NONE = -1000004;
    static final int STATE = -1000005;
    static final int MISSING = -1000006;
    static final int SIZE = -1000007;
    static final long LONG_BEYOND = -1000000000000000001L;
    static final long LONG_MISSING = LONG_BEYOND - 5;

    private int wrong;

    void is(String call, long got, long want) {
        if (got != want) {
            wrong++;
            System.out.println(call + " answered " + got + ", due is " + want);
        }
    }

    void holds(String what, boolean right) {
        if (!right) {
            wrong++;
            System.out.println("not so: " + what);
        }
    }

    /** The bytes of a text come to THE TAPE, four by four: an object has 512 calls, no more. */
    static void feed(RolledPicks x, String text) {
        for (int i = 0; i < text.length(); i += 4) {
            int n = Math.min(4, text.length() - i);
            int bytes = 0;
            for (int j = i; j < i + n; j++) {
                bytes = bytes << 8 | text.charAt(j) & 255;
            }
            x.feed(bytes, n);
        }
    }

    static int text(RolledPicks x, String text) {
        feed(x, text);
        return x.text();
    }

    void end() {
        System.out.println(wrong == 0 ? "all answers are as due" : wrong + " answers are not as due");
        if (wrong != 0) {
            System.exit(1);
        }
    }
}
