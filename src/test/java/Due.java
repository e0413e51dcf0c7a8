/** Counts the answers of one test that are as due, and tells of those that are not. */
final class Due {
    private final String test;
    private int right;
    private int wrong;

    Due(String test) {
        this.test = test;
    }

    void is(String call, long got, long want) {
        if (got == want) {
            right++;
            return;
        }
        wrong++;
        System.out.println(test + ": " + call + " answered " + got + ", due is " + want);
    }

    /** The closing line, and exit code 1 if an answer was not as due. */
    void close() {
        System.out.println(test + ": " + right + " passed, " + wrong + " failed");
        if (wrong != 0 || right == 0) {
            System.exit(1);
        }
    }

    static void feed(HatHours x, String text) {
        for (int i = 0; i < text.length(); i++) {
            x.feed(text.charAt(i));
        }
    }

    static int tell(HatHours x, String text) {
        feed(x, text);
        return x.text();
    }

    static HatHours told(String text) {
        HatHours x = new HatHours();
        if (tell(x, text) < 0) {
            throw new IllegalStateException("not a text: " + text);
        }
        return x;
    }
}
