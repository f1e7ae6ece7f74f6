/** Promises 11 to 14, a test for each of their edges: days. */
final class DayEdgesTest extends Edges {
    private static final int SLOW = 2;
    private static final int BORNE = 5;

    private static void days() {
        range(11, "go: n", 1, 40, (x, v) -> x.go(v));
        test(11, "go: 1 DAY, the fewest", () -> {
            SnailLaws x = new SnailLaws();
            x.go(1);
            due("now(0)", x.now(0), 1);
        });
        test(11, "go: 40 DAYS, the most", () -> {
            SnailLaws x = new SnailLaws();
            x.go(40);
            due("now(0)", x.now(0), 40);
        });
        test(11, "go: without SNAILS no LAW and no CLASHES come", () -> {
            SnailLaws x = new SnailLaws();
            due("go(40)", x.go(40), 0);
            due("count(4)", x.count(4), 0);
        });
        test(11, "go: it answers CLASHES ever, not those of its DAYS", () -> {
            SnailLaws x = new SnailLaws();
            Check.add(x, 0, 4, 1, 4);
            Check.add(x, 0, 4, 2, 4);
            due("go(1)", x.go(1), 1);
            x.change(1, 2, 1);
            due("go(1) with one clash more", x.go(1), 2);
            due("go(1) with none", x.go(1), 2);
        });
        test(11, "go: the most DAYS that 512 calls bring are no STATE yet", () -> {
            SnailLaws x = new SnailLaws();
            for (int i = 0; i < 510; i++) {
                due("go(40)", x.go(40), 0);
            }
            due("now(0)", x.now(0), 20400);
            due("status(4)", x.status(4), 0);
        });
    }

    /** Where a SLOW one that crawls one step a DAY is behind one DAY. */
    private static void dueStep(String edge, int at, int gate, int want, int... hedges) {
        test(11, "go: " + edge, () -> {
            SnailLaws x = new SnailLaws();
            Check.add(x, SLOW, at, 3, gate);
            for (int hedge : hedges) {
                x.hedge(hedge, 1);
            }
            x.go(1);
            due("of(0, 1)", x.of(0, 1), want);
            due("land(" + at + ", 2)", x.land(at, 2), 3);
            due("land(" + want + ", 2)", x.land(want, 2), 3);
            due("count(4)", x.count(4), at == want ? 1 : 2);
        });
    }

    private static void steps() {
        dueStep("above comes before right", 40, 8, 31);
        dueStep("above comes before left", 40, 0, 31);
        dueStep("right comes before below", 40, 80, 41);
        dueStep("below comes before left", 40, 72, 49);
        dueStep("left, if that alone is less FAR", 40, 36, 39);
        dueStep("nothing is above the first row", 0, 80, 1);
        dueStep("nothing is right of the last column", 8, 80, 17);
        dueStep("nothing is right of the end of a row", 8, 9, 17);
        dueStep("nothing is below the last row", 80, 0, 71);
        dueStep("nothing is left of the begin of a row", 9, 8, 0);
        dueStep("it stays AT its GATE", 40, 40, 40);
        dueStep("it stays if no CELL is less FAR: shut in", 0, 80, 0, 1, 9);
        dueStep("it stays if its GATE is a HEDGE", 40, 41, 40, 41);
        dueStep("it stays if it is AT a HEDGE, with a way BESIDE it", 40, 42, 40, 40);
        dueStep("it stays AT a HEDGE that is its GATE", 40, 40, 40, 40);
        dueStep("it goes round a HEDGE", 40, 42, 31, 41);
        test(11, "go: it stops AT its GATE with MOVES left", () -> {
            SnailLaws x = new SnailLaws();
            Check.add(x, BORNE, 38, 1, 40);
            x.go(1);
            due("of(0, 1)", x.of(0, 1), 40);
            due("count(4)", x.count(4), 3);
        });
        test(11, "go: its own CELL and each that it moves to come under its LAW", () -> {
            SnailLaws x = new SnailLaws();
            Check.add(x, BORNE, 36, 1, 44);
            x.go(1);
            due("count(4)", x.count(4), 4);
            due("land(36, 2)", x.land(36, 2), 1);
            due("land(39, 2)", x.land(39, 2), 1);
            due("land(40, 2)", x.land(40, 2), -1);
        });
        test(11, "go: with 0 MOVES its own CELL comes under its LAW", () -> {
            SnailLaws x = new SnailLaws();
            x.set(0, 4);
            Check.add(x, SLOW, 36, 7, 44);
            x.go(40);
            due("of(0, 1)", x.of(0, 1), 36);
            due("land(36, 2)", x.land(36, 2), 7);
            due("count(4)", x.count(4), 1);
        });
        test(11, "go: a SLEEPY one moves at even DAYS only, of several too", () -> {
            SnailLaws x = new SnailLaws();
            Check.add(x, 3, 0, 0, 8);
            x.go(3);
            due("DAYS 0 to 2", x.of(0, 1), 2);
            x.go(1);
            due("DAY 3", x.of(0, 1), 2);
            x.go(1);
            due("DAY 4", x.of(0, 1), 3);
        });
    }

    private static void clashes() {
        test(11, "go: where no LAW was in force it is no clash", () -> dueClash(-1, 2, 0));
        test(11, "go: where the same LAW was in force it is no clash", () -> dueClash(2, 2, 0));
        test(11, "go: where another LAW was in force it is one clash", () -> dueClash(0, 7, 1));
        test(11, "go: LAW 0 meets another LAW, too", () -> dueClash(7, 0, 1));
        test(11, "go: SNAILS by numbers, the LAW of the last is in force", () -> {
            SnailLaws x = new SnailLaws();
            Check.add(x, 0, 4, 6, 4);
            Check.add(x, 0, 4, 5, 4);
            due("go(1)", x.go(1), 1);
            due("land(4, 2)", x.land(4, 2), 5);
        });
        test(11, "go: a later SNAIL comes to where an earlier one came on that DAY", () -> {
            SnailLaws x = new SnailLaws();
            Check.add(x, SLOW, 0, 1, 8);
            Check.add(x, SLOW, 2, 2, 0);
            due("go(1)", x.go(1), 1);
            due("land(1, 2)", x.land(1, 2), 2);
        });
        test(11, "go: CLASHES stand still at 99999, and LAWS come in force on", () -> {
            SnailLaws x = new SnailLaws();
            for (int s = 0; s < 8; s++) {
                Check.add(x, 6, 0, s % 2, 80);
            }
            x.set(0, 9);
            x.set(1, 20);
            // Each DAY eight SNAILS come to five CELLS, where but for the first DAY another LAW was.
            for (int i = 0; i < 125; i++) {
                due("thrushes(20)", x.thrushes(20), 160);
            }
            due("now(1)", x.now(1), 125 * 20 * 40 - 5);
            for (int s = 0; s < 8; s++) {
                x.change(s, 3, 4);
                x.change(s, 2, s == 0 ? 2 : 1);
            }
            due("two clashes more", x.go(1), 99997);
            due("the most", x.go(1), 99999);
            due("still the most", x.go(1), 99999);
            due("still the most behind many", x.go(40), 99999);
            due("count(3)", x.count(3), 99999);
            due("land(4, 2)", x.land(4, 2), 1);
        });
    }

    /** A LAW comes, by one SNAIL, to a CELL where one was (-1: none). */
    private static void dueClash(int was, int comes, int want) {
        SnailLaws x = new SnailLaws();
        Check.add(x, SLOW, 4, 0, 4);
        if (was >= 0) {
            x.change(0, 2, was);
            x.go(1);
        }
        x.change(0, 2, comes);
        due("go(1)", x.go(1), want);
        due("land(4, 2)", x.land(4, 2), comes);
    }

    private static void eating() {
        int[] eats = {0, 1, 0, 0, 0, 0, 1};
        for (int k = 0; k < 7; k++) {
            int kind = k;
            test(11, "go: KIND " + kind + (eats[kind] == 1 ? " eats" : " doesn't eat"), () -> {
                SnailLaws x = new SnailLaws();
                Check.add(x, kind, 40, 0, 40);
                x.greens(40, 9);
                x.go(1);
                due("land(40, 1)", x.land(40, 1), 9 - eats[kind]);
            });
        }
        test(11, "go: GREENS are never below 0", () -> {
            SnailLaws x = new SnailLaws();
            Check.add(x, 1, 40, 0, 40);
            Check.add(x, 6, 40, 0, 40);
            x.greens(40, 3);
            x.go(2);
            due("land(40, 1)", x.land(40, 1), 0);
            x.go(1);
            due("land(40, 1)", x.land(40, 1), 0);
        });
        test(11, "go: a GREEDY one that eats the last moves on the next DAY", () -> {
            SnailLaws x = new SnailLaws();
            Check.add(x, 1, 0, 0, 8);
            x.greens(0, 1);
            x.go(1);
            due("of(0, 1)", x.of(0, 1), 0);
            x.go(1);
            due("of(0, 1)", x.of(0, 1), 2);
        });
        test(11, "go: MOVES by how it is ahead of them: GREENS on its way don't hold it", () -> {
            SnailLaws x = new SnailLaws();
            Check.add(x, 1, 0, 0, 8);
            x.greens(1, 9);
            x.greens(2, 9);
            x.go(1);
            due("of(0, 1)", x.of(0, 1), 2);
            due("land(1, 1)", x.land(1, 1), 9);
            due("land(2, 1)", x.land(2, 1), 8);
        });
        test(11, "go: a GREEDY one moves if an earlier SNAIL ate the last on that DAY", () -> {
            SnailLaws x = new SnailLaws();
            Check.add(x, 1, 0, 0, 8);
            Check.add(x, 1, 0, 0, 8);
            x.greens(0, 1);
            x.go(1);
            due("of(0, 1)", x.of(0, 1), 0);
            due("of(1, 1)", x.of(1, 1), 2);
        });
    }

    private static void nows() {
        range(12, "now: what", 0, 5, (x, v) -> x.now(v));
        test(12, "now: CELLS with a LAW, none", () -> due("now(2)", new SnailLaws().now(2), 0));
        test(12, "now: CELLS with a LAW, all", () -> due("now(2)", lawEverywhere(0).now(2), 81));
        test(12, "now: GREENS of all, none", () -> due("now(3)", new SnailLaws().now(3), 0));
        test(12, "now: GREENS of all, of the first and of the last CELL", () -> {
            SnailLaws x = new SnailLaws();
            x.greens(0, 1);
            x.greens(80, 2);
            due("now(3)", x.now(3), 3);
        });
        test(12, "now: SNAILS AT their GATES, of no SNAILS none", () -> due("now(5)", new SnailLaws().now(5), 0));
        test(12, "now: SNAILS AT their GATES, none of them", () -> dueGates(0, 0));
        test(12, "now: SNAILS AT their GATES, the first", () -> dueGates(1, 1));
        test(12, "now: SNAILS AT their GATES, the last", () -> dueGates(128, 128));
        test(12, "now: SNAILS AT their GATES, all eight", () -> dueGates(255, 255));
        test(12, "now: a SNAIL AT a HEDGE that is its GATE is there", () -> {
            SnailLaws x = new SnailLaws();
            x.snail(0, 80);
            x.hedge(80, 1);
            due("now(5)", x.now(5), 1);
        });
    }

    private static void dueGates(int set, int want) {
        SnailLaws x = new SnailLaws();
        for (int s = 0; s < 8; s++) {
            x.snail(0, (set >> s & 1) == 1 ? 80 : 79);
        }
        due("now(5)", x.now(5), want);
    }

    private static void realms() {
        range(13, "realm: LAW", 0, 7, (x, v) -> x.realm(v));
        test(13, "realm: of a LAW that is in force nowhere 0", () -> due("realm(7)", laden().realm(7), 0));
        test(13, "realm: where none is in force, of LAW 0", () -> due("realm(0)", new SnailLaws().realm(0), 0));
        test(13, "realm: everywhere", () -> {
            due("realm(7)", lawEverywhere(7).realm(7), 81);
            due("realm(0)", lawEverywhere(7).realm(0), 0);
        });
        test(14, "repeals: none is in force", () -> unchanged(0, x -> x.repeals(), x -> x.repeals()));
        test(14, "repeals: one is in force everywhere", () -> {
            SnailLaws x = lawEverywhere(0);
            due("repeals()", x.repeals(), 81);
            due("count(4)", x.count(4), 0);
            for (int cell = 0; cell < 81; cell++) {
                due("land(" + cell + ", 2)", x.land(cell, 2), -1);
            }
        });
        test(14, "repeals: a LAW that comes then meets none", () -> {
            SnailLaws x = new SnailLaws();
            Check.add(x, 0, 4, 1, 4);
            x.go(1);
            due("repeals()", x.repeals(), 1);
            x.change(0, 2, 2);
            due("go(1)", x.go(1), 0);
        });
        test(14, "repeals: CLASHES and BANS stand", () -> {
            SnailLaws x = laden();
            int before = x.now(1);
            x.repeals();
            due("now(1)", x.now(1), before);
            due("bans(1, 0)", x.bans(1, 0), 129);
        });
    }

    public static void main(String[] args) {
        days();
        steps();
        clashes();
        eating();
        nows();
        realms();
        Check.end("DayEdgesTest", 11, 14);
    }
}
