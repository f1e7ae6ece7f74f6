import java.util.ArrayList;
import java.util.List;
import java.util.function.Consumer;

/** What the tests of the edges share: an object with something of everything, and a twin of it. */
abstract class Edges {
    static final int BEYOND = Check.BEYOND;
    static final int FULL = Check.FULL;
    static final int KIND = Check.KIND;
    static final int NONE = Check.NONE;
    static final int STATE = Check.STATE;
    static final int MISSING = Check.MISSING;
    static final int SIZE = Check.SIZE;
    static final int LEAST = Check.LEAST;
    static final int GREATEST = Check.GREATEST;

    /** A call on an object. */
    interface Act {
        long on(SnailLaws x);
    }

    /** A call on an object with a number that a test chooses. */
    interface ActWith {
        long on(SnailLaws x, int v);
    }

    private static final List<List<Act>> PROBES = probes();

    Edges() {
    }

    static void due(String call, long got, long want) {
        Check.due(call, got, want);
    }

    static void test(int promise, String edge, Runnable body) {
        Check.test(promise, edge, body);
    }

    /**
     * Five SNAILS (0 to 4) of several KINDS on day 4, laws, clashes, hedges (70, 71), greens (0, 60);
     * spots 4 and 9 hold snails; sheet 0 has ten numbers of 8 bits, 1 three, 2 two of 32 bits, 3 is
     * MISSING; the tape holds a text; another republic is kept.
     */
    static SnailLaws laden() {
        SnailLaws x = new SnailLaws();
        x.greens(60, 3);
        x.hedge(70, 1);
        x.bans(5, 33);
        x.seed(9);
        Check.add(x, 5, 40, 5, 80);
        x.hold(4, 0);
        x.go(1);
        x.image();
        Check.add(x, 1, 0, 1, 8);
        Check.add(x, 3, 12, 2, 0);
        Check.add(x, 6, 8, 3, 0);
        Check.add(x, 0, 70, 2, 60);
        x.change(1, 4, 7);
        x.change(3, 4, 0);
        x.greens(0, 2);
        x.hedge(71, 1);
        x.bans(1, 129);
        x.bans(2, 2);
        x.set(0, 7);
        x.set(1, 9);
        x.seed(77);
        x.hold(9, 2);
        x.go(3);
        x.sheet(0, 8, 10);
        for (int i = 0; i < 10; i++) {
            x.write(0, i, 9 - i);
        }
        x.sheet(1, 8, 3);
        x.write(1, 1, 5);
        x.sheet(2, 32, 2);
        x.write(2, 0, 4);
        Check.feed(x, "wet 3;hedge 7");
        return x;
    }

    /** Three more SNAILS: the laden object has as many as can be then. */
    static void fillSnails(SnailLaws x) {
        for (int s = 0; s < 3; s++) {
            x.snail(s, s);
        }
    }

    /** A republic in which a LAW is in force at each CELL: 104 calls. */
    static SnailLaws lawEverywhere(int law) {
        SnailLaws x = new SnailLaws();
        x.set(0, 0);
        for (int s = 0; s < 8; s++) {
            x.snail(2, s);
            x.change(s, 2, law);
        }
        x.go(1);
        for (int cell = 8; cell < 81; cell++) {
            x.change(cell % 8, 1, cell);
            if (cell % 8 == 7 || cell == 80) {
                x.go(1);
            }
        }
        return x;
    }

    /** Calls that tell all that an object holds; each row is for an object of its own. */
    private static List<List<Act>> probes() {
        List<Act> land = new ArrayList<>();
        countsAndLand(land);
        List<Act> rest = new ArrayList<>();
        for (int s = 0; s < 8; s++) {
            for (int what = 0; what < 7; what++) {
                int snail = s;
                int w = what;
                rest.add(x -> x.of(snail, w));
            }
        }
        for (int i = 0; i < 10; i++) {
            int at = i;
            rest.add(x -> at < 8 ? x.bans(at, 0) : x.set(at - 8, 0));
            rest.add(x -> x.as(at, 0));
            rest.add(x -> x.as(at, 3));
        }
        for (int i = 0; i < 4; i++) {
            int s = i;
            rest.add(x -> x.judge(s));
            rest.add(x -> x.copy(s, 0, (s + 1) % 4, 0, 0));
            rest.add(x -> x.copy(s, 0, (s + 2) % 4, 0, 0));
            rest.add(x -> x.load(s));
            for (int c = 0; c < 40; c++) {
                int cell = c;
                rest.add(x -> x.land(cell, 1));
            }
        }
        List<Act> kept = new ArrayList<>();
        kept.add(x -> x.text());
        kept.add(x -> x.now(4));
        kept.add(x -> x.count(2));
        kept.add(x -> x.count(5));
        kept.add(x -> x.undo());
        countsAndLand(kept);
        kept.add(x -> x.of(0, 1));
        kept.add(x -> x.as(4, 0));
        kept.add(x -> x.tear());
        return List.of(land, rest, kept);
    }

    private static void countsAndLand(List<Act> row) {
        for (int w = 0; w < 8; w++) {
            int what = w;
            row.add(x -> x.count(what));
            row.add(x -> what < 6 ? x.now(what) : x.realm(what - 6));
        }
        for (int c = 0; c < 81 * 3; c++) {
            int cell = c / 3;
            int what = c % 3;
            row.add(x -> x.land(cell, what));
        }
    }

    /** The act answers so, and then the object tells what one tells that only came to be twinly. */
    private static void compare(Consumer<SnailLaws> ahead, Act act, long want, Consumer<SnailLaws> twinly) {
        for (int row = 0; row < PROBES.size(); row++) {
            SnailLaws x = laden();
            SnailLaws twin = laden();
            ahead.accept(x);
            twinly.accept(twin);
            due("the act", act.on(x), want);
            for (int i = 0; i < PROBES.get(row).size(); i++) {
                Act probe = PROBES.get(row).get(i);
                due("then probe " + i + " of row " + row, probe.on(x), probe.on(twin));
            }
        }
    }

    private static void compareStatus(Consumer<SnailLaws> ahead, Act act, int finding) {
        SnailLaws x = laden();
        SnailLaws twin = laden();
        ahead.accept(x);
        ahead.accept(twin);
        act.on(x);
        for (int which = 0; which < 7; which++) {
            int more = finding == BEYOND - which ? 1 : 0;
            due("status(" + which + ")", x.status(which), twin.status(which) + more);
        }
        due("status(-1)", x.status(-1), twin.status(-1) + (finding == 0 ? 0 : 1));
    }

    /** The act answers a finding, which status() counts once, and changes nothing else. */
    static void refused(int finding, Consumer<SnailLaws> ahead, Act act) {
        compare(ahead, act, finding, ahead);
        compareStatus(ahead, act, finding);
    }

    static void refused(int finding, Act act) {
        refused(finding, x -> { }, act);
    }

    /** The act answers no finding, and changes nothing at all. */
    static void unchanged(long want, Consumer<SnailLaws> ahead, Act act) {
        compare(ahead, act, want, ahead);
        compareStatus(ahead, act, 0);
    }

    /** The act changes just what others do, and answers no finding. */
    static void changesAs(long want, Consumer<SnailLaws> ahead, Act act, Consumer<SnailLaws> twinly) {
        compare(ahead, act, want, twinly);
        compareStatus(ahead, act, 0);
    }

    /** A test for each end of a range, which is taken, and for what lies just outside: BEYOND. */
    static void range(int promise, String name, int first, int last, ActWith act) {
        test(promise, name + " " + first + ", the first, is taken", () -> taken(act, first));
        test(promise, name + " " + last + ", the last, is taken", () -> taken(act, last));
        int[] outside = {first - 1, last + 1, LEAST, GREATEST};
        for (int v : outside) {
            test(promise, name + " " + v + ", outside, is BEYOND and changes nothing else",
                () -> refused(BEYOND, x -> act.on(x, v)));
        }
    }

    private static void taken(ActWith act, int v) {
        SnailLaws x = laden();
        int before = x.status(0);
        due("BEYOND", act.on(x, v) == BEYOND ? 1 : 0, 0);
        due("status(0)", x.status(0), before);
    }

    /** One of a row of numbers that are all outside: each a test. */
    static void outside(int promise, String name, int[] numbers, ActWith act) {
        for (int v : numbers) {
            test(promise, name + " " + v + ", none of them, is BEYOND and changes nothing else",
                () -> refused(BEYOND, x -> act.on(x, v)));
        }
    }
}
