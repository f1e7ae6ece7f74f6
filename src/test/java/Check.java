import java.util.TreeMap;

/** Counts the answers of a test that are not as due. */
final class Check {
    static final int BEYOND = -1000001;
    static final int FULL = -1000002;
    static final int KIND = -1000003;
    static final int NONE = -1000004;
    static final int STATE = -1000005;
    static final int MISSING = -1000006;
    static final int SIZE = -1000007;
    static final int LEAST = Integer.MIN_VALUE;
    static final int GREATEST = Integer.MAX_VALUE;

    private static final int MOST_SHOWN = 100;

    private static int asked = 0;
    private static int wrong = 0;
    private static String current = "";
    /** The tests that bear names, and the promise of each. */
    private static final TreeMap<String, Integer> NAMED = new TreeMap<>();

    private Check() {
    }

    static void due(String call, long got, long want) {
        asked++;
        if (got != want) {
            complain(call + " answered " + got + ", due is " + want);
        }
    }

    private static void complain(String what) {
        wrong++;
        if (wrong <= MOST_SHOWN) {
            System.out.println(current + what);
        }
    }

    /** A test of its own: a promise, the case that it is about, and what is asked. */
    static void test(int promise, String edge, Runnable body) {
        String name = "promise " + promise + ", " + edge;
        if (NAMED.put(name, promise) != null) {
            complain("two tests are named " + name);
        }
        current = name + ": ";
        int before = asked;
        body.run();
        if (asked == before) {
            complain("nothing is asked");
        }
        current = "";
    }

    /** A new snail that bears a law to a gate. */
    static int add(SnailLaws x, int kind, int cell, int law, int gate) {
        int s = x.snail(kind, cell);
        x.change(s, 2, law);
        x.change(s, 3, gate);
        return s;
    }

    /** Feeds a text, four bytes a call, behind what the tape has. */
    static void feed(SnailLaws x, String text) {
        for (int i = 0; i < text.length(); i += 4) {
            int n = Math.min(4, text.length() - i);
            int bytes = 0;
            for (int k = 0; k < n; k++) {
                bytes = bytes << 8 | text.charAt(i + k);
            }
            x.feed(bytes, n);
        }
    }

    /** Reads a text from a tape that has nothing else. */
    static int read(SnailLaws x, String text) {
        x.wipe();
        feed(x, text);
        return x.text();
    }

    /** A land with one way from 0 to 80, to and fro, of 48 steps. */
    static void layLongWay(SnailLaws x) {
        for (int row = 1; row < 9; row += 2) {
            for (int column = 0; column < 9; column++) {
                x.hedge(row * 9 + column, column == (row % 4 == 1 ? 8 : 0) ? 0 : 1);
            }
        }
    }

    static void end(String test) {
        String tests = NAMED.isEmpty() ? "" : NAMED.size() + " tests, ";
        System.out.println(test + ": " + tests + asked + " asked, " + wrong + " wrong");
        if (wrong > 0 || asked == 0) {
            System.exit(1);
        }
    }

    /** Ends tests that bear names, of which each promise from one to another has some. */
    static void end(String test, int first, int last) {
        for (int promise = first; promise <= last; promise++) {
            if (!NAMED.containsValue(promise)) {
                complain("promise " + promise + " has no test");
            }
        }
        end(test);
    }
}
