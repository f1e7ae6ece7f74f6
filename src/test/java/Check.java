/** Counts the answers of a test that are not as due. */
final class Check {
    static final int BEYOND = -1000001;
    static final int FULL = -1000002;
    static final int KIND = -1000003;
    static final int NONE = -1000004;
    static final int STATE = -1000005;
    static final int MISSING = -1000006;
    static final int SIZE = -1000007;
    static final int LEAST = Integer.MIN_VALUE;
    static final int GREATEST = Integer.MAX_VALUE;

    private static int asked = 0;
    private static int wrong = 0;

    private Check() {
    }

    static void due(String call, long got, long want) {
        asked++;
        if (got != want) {
            wrong++;
            if (wrong <= 100) {
                System.out.println(call + " answered " + got + ", due is " + want);
            }
        }
    }

    /** A new snail that bears a law to a gate. */
    static int add(SnailLaws x, int kind, int cell, int law, int gate) {
        int s = x.snail(kind, cell);
        x.change(s, 2, law);
        x.change(s, 3, gate);
        return s;
    }

    /** Feeds a text byte by byte and reads it. */
    static int read(SnailLaws x, String text) {
        x.wipe();
        for (int i = 0; i < text.length(); i++) {
            x.feed(text.charAt(i), 1);
        }
        return x.text();
    }

    static void end(String test) {
        System.out.println(test + ": " + asked + " asked, " + wrong + " wrong");
        if (wrong > 0 || asked == 0) {
            System.exit(1);
        }
    }
}
