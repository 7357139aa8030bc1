/** Counts the answers that are not the ones due; the tests of this project share it. */
final class Due {
    private int wrong = 0;
    private int asked = 0;
    private final String name;

    Due(String name) {
        this.name = name;
    }

    void is(String call, long got, long want) {
        asked++;
        if (got != want) {
            wrong++;
            System.out.println(name + ": " + call + " answered " + got + ", due is " + want);
        }
    }

    void end() {
        System.out.println(name + ": " + asked + " answers, " + wrong + " not as due");
        if (wrong != 0) {
            System.exit(1);
        }
    }

    /** Feeds a text to THE TAPE, eight bytes at a time. */
    static void feed(HalfBoats x, String text) {
        for (int i = 0; i < text.length(); i += 8) {
            long eight = 0;
            int n = Math.min(8, text.length() - i);
            for (int k = 0; k < n; k++) {
                eight |= (long) (text.charAt(i + k) & 255) << 8 * k;
            }
            x.feed(eight, n);
        }
    }

    static int read(HalfBoats x, String text) {
        feed(x, text);
        return x.read();
    }
}
