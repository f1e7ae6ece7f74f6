import java.util.function.Consumer;

/** Promises 28 to 32, a test for each of their edges: releases, trails. */
final class ReleaseEdgesTest extends Edges {
    private static final int SNAIL = 0;
    private static final int GREEDY = 1;
    private static final int SLOW = 2;

    /** SNAIL 0, or 1 and 2 together, bring LAW 1 to CELL 2 behind 2 DAYS. */
    private static SnailLaws oneOrTwo(int price, int otherPrice, int thirdPrice) {
        SnailLaws x = new SnailLaws();
        Check.add(x, SNAIL, 0, 1, 4);
        Check.add(x, GREEDY, 0, 1, 4);
        Check.add(x, GREEDY, 0, 3, 0);
        x.greens(0, 2);
        x.change(0, 4, price);
        x.change(1, 4, otherPrice);
        x.change(2, 4, thirdPrice);
        return x;
    }

    /** Only all eight together eat so much that the first of them gets away on the second DAY. */
    private static SnailLaws allEight() {
        SnailLaws x = new SnailLaws();
        for (int s = 0; s < 8; s++) {
            Check.add(x, GREEDY, 0, s == 0 ? 1 : 2, s == 0 ? 8 : 0);
            x.change(s, 4, 99);
        }
        x.greens(0, 8);
        return x;
    }

    /** Of eight SNAILS one alone bears LAW 1. */
    private static SnailLaws bearer(int snail) {
        SnailLaws x = new SnailLaws();
        for (int s = 0; s < 8; s++) {
            Check.add(x, SNAIL, 0, s == snail ? 1 : 2, 8);
        }
        return x;
    }

    /** A SLOW one that comes to its GATE on the 40th DAY. */
    private static SnailLaws fortySteps() {
        SnailLaws x = new SnailLaws();
        Check.layLongWay(x);
        Check.add(x, SLOW, 72, 1, 0);
        return x;
    }

    private static void dueRelease(String edge, SnailLaws x, int[] asked, int set, int cost) {
        test(28, "release: " + edge, () -> due("release", x.release(asked[0], asked[1], asked[2]), set));
        test(29, "costs: " + edge, () -> due("costs", x.costs(asked[0], asked[1], asked[2]), cost));
    }

    private static void releases() {
        range(28, "release: LAW", 0, 7, (x, v) -> x.release(v, 80, 2));
        range(28, "release: CELL", 0, 80, (x, v) -> x.release(5, v, 2));
        range(28, "release: n", 0, 40, (x, v) -> x.release(5, 80, v));
        range(29, "costs: LAW", 0, 7, (x, v) -> x.costs(v, 80, 2));
        range(29, "costs: CELL", 0, 80, (x, v) -> x.costs(5, v, 2));
        range(29, "costs: n", 0, 40, (x, v) -> x.costs(5, 80, v));
        dueRelease("in force now, behind 0 DAYS: none of them", laden(), new int[] {5, 80, 0}, 0, 0);
        dueRelease("in force now, behind 40 DAYS: none of them", laden(), new int[] {3, 0, 40}, 0, 0);
        dueRelease("on the 40th DAY", fortySteps(), new int[] {1, 0, 40}, 1, 1);
        dueRelease("not yet on the 39th DAY", fortySteps(), new int[] {1, 0, 39}, NONE, NONE);
        dueRelease("without SNAILS", new SnailLaws(), new int[] {0, 0, 40}, NONE, NONE);
        dueRelease("the first SNAIL alone", bearer(0), new int[] {1, 2, 1}, 1, 1);
        dueRelease("the last SNAIL alone", bearer(7), new int[] {1, 2, 1}, 128, 1);
        dueRelease("all eight, each for the most", allEight(), new int[] {1, 2, 2}, 255, 792);
        dueRelease("two for less than one", oneOrTwo(9, 3, 5), new int[] {1, 2, 2}, 6, 8);
        dueRelease("one for less than two", oneOrTwo(7, 3, 5), new int[] {1, 2, 2}, 1, 7);
        dueRelease("for as much the least set", oneOrTwo(8, 3, 5), new int[] {1, 2, 2}, 1, 8);
        dueRelease("for nothing the least set", oneOrTwo(0, 0, 0), new int[] {1, 2, 2}, 1, 0);
        dueRelease("two for nothing before one for 1", oneOrTwo(1, 0, 0), new int[] {1, 2, 2}, 6, 0);
        dueRelease("a later LAW of one that isn't released doesn't count", laterLaw(), new int[] {1, 4, 9}, 1, 1);
    }

    /** With both released the LAW of the second one would be in force. */
    private static SnailLaws laterLaw() {
        SnailLaws x = new SnailLaws();
        Check.add(x, SNAIL, 0, 1, 4);
        Check.add(x, SNAIL, 0, 2, 4);
        return x;
    }

    private static void releaseFindings() {
        dueNoRelease("behind 0 DAYS what isn't in force now", x -> { }, new int[] {5, 0, 0});
        dueNoRelease("a LAW that no SNAIL bears", x -> { }, new int[] {7, 0, 40});
        dueNoRelease("a CELL that no SNAIL comes to", x -> { }, new int[] {5, 36, 40});
        test(28, "release: BEYOND is asked before NONE", () -> refused(BEYOND, x -> x.release(7, 81, 40)));
        test(29, "costs: BEYOND is asked before NONE", () -> refused(BEYOND, x -> x.costs(7, 81, 40)));
        test(28, "release: nothing changes", () -> unchanged(2, x -> { }, x -> x.release(1, 8, 40)));
        test(29, "costs: nothing changes", () -> unchanged(7, x -> { }, x -> x.costs(1, 8, 40)));
    }

    private static void dueNoRelease(String edge, Consumer<SnailLaws> ahead, int[] asked) {
        test(28, "release: NONE, " + edge + ", and nothing else changes",
            () -> refused(NONE, ahead, x -> x.release(asked[0], asked[1], asked[2])));
        test(29, "costs: NONE, " + edge + ", and nothing else changes",
            () -> refused(NONE, ahead, x -> x.costs(asked[0], asked[1], asked[2])));
    }

    private static void farthest() {
        range(30, "farthest: SNAIL", 0, 4, (x, v) -> x.farthest(v, 1));
        range(30, "farthest: n", 0, 40, (x, v) -> x.farthest(1, v));
        test(30, "farthest: no SNAIL at all", () -> due("farthest", new SnailLaws().farthest(0, 0), BEYOND));
        test(30, "farthest: in 0 DAYS its GATE itself", () -> unchanged(8, x -> { }, x -> x.farthest(1, 0)));
        test(30, "farthest: in 39 DAYS", () -> due("farthest(0, 39)", fortySteps().farthest(0, 39), 63));
        test(30, "farthest: in 40 DAYS", () -> due("farthest(0, 40)", fortySteps().farthest(0, 40), 72));
        test(30, "farthest: all the land, corner to corner", () -> {
            SnailLaws x = new SnailLaws();
            Check.add(x, SNAIL, 40, 0, 80);
            due("farthest(0, 40)", x.farthest(0, 40), 0);
            x.change(0, 3, 0);
            due("farthest(0, 40)", x.farthest(0, 40), 80);
        });
        test(30, "farthest: of several as FAR the least", () -> {
            SnailLaws x = new SnailLaws();
            Check.add(x, SLOW, 0, 0, 40);
            due("farthest(0, 1)", x.farthest(0, 1), 31);
        });
        test(30, "farthest: with 0 MOVES its GATE itself", () -> {
            SnailLaws x = new SnailLaws();
            Check.add(x, SLOW, 0, 0, 40);
            x.set(0, 0);
            due("farthest(0, 40)", x.farthest(0, 40), 40);
        });
        test(30, "farthest: a GATE that is shut in: itself", () -> {
            SnailLaws x = new SnailLaws();
            Check.add(x, SNAIL, 80, 0, 0);
            x.hedge(1, 1);
            x.hedge(9, 1);
            due("farthest(0, 40)", x.farthest(0, 40), 0);
        });
        test(30, "farthest: no HEDGE", () -> {
            SnailLaws x = new SnailLaws();
            Check.add(x, SNAIL, 40, 0, 80);
            x.hedge(0, 1);
            due("farthest(0, 40)", x.farthest(0, 40), 1);
        });
        test(30, "farthest: its GATE is a HEDGE: NONE, and nothing else changes",
            () -> refused(NONE, x -> x.hedge(8, 1), x -> x.farthest(1, 40)));
        test(30, "farthest: it is AT its GATE, a HEDGE: NONE", () -> {
            SnailLaws x = laden();
            x.hedge(80, 1);
            due("farthest(0, 0)", x.farthest(0, 0), NONE);
        });
        test(30, "farthest: BEYOND is asked before NONE",
            () -> refused(BEYOND, x -> x.hedge(8, 1), x -> x.farthest(1, 41)));
        test(30, "farthest: nothing changes", () -> unchanged(72, x -> { }, x -> x.farthest(1, 40)));
    }

    /** Both acts on a sheet of numbers of 8 bits and a SLOW one to GATE 8: how many, and the least. */
    private static void dueTrail(String edge, int[] numbers, int count, int least) {
        SnailLaws x = new SnailLaws();
        Check.add(x, SLOW, 40, 0, 8);
        x.sheet(0, 8, numbers.length);
        for (int i = 0; i < numbers.length; i++) {
            x.write(0, i, numbers[i]);
        }
        test(31, "fits: " + edge, () -> due("fits(0, 0)", x.fits(0, 0), count));
        test(32, "began: " + edge, () -> due("began(0, 0)", x.began(0, 0), least));
    }

    private static void trails() {
        range(31, "fits: sheet", 0, 3, (x, v) -> x.fits(v, 0));
        range(31, "fits: SNAIL", 0, 4, (x, v) -> x.fits(0, v));
        range(32, "began: sheet", 0, 3, (x, v) -> x.began(v, 0));
        range(32, "began: SNAIL", 0, 4, (x, v) -> x.began(0, v));
        dueTrail("a sheet of no numbers: anywhere", new int[] {}, 81, 0);
        dueTrail("one number, -1: anywhere", new int[] {-1}, 81, 0);
        dueTrail("one number of 8 bits, 255: anywhere", new int[] {255}, 81, 0);
        dueTrail("the first number is where it is now", new int[] {80}, 1, 80);
        dueTrail("the second number is where it is behind a DAY", new int[] {-1, 7}, 2, 6);
        dueTrail("the first CELL, 0", new int[] {0}, 1, 0);
        dueTrail("it stays AT its GATE", new int[] {8, 8, 8}, 1, 8);
        dueTrail("81 is no CELL", new int[] {81}, 0, NONE);
        dueTrail("-2 is no CELL and isn't anywhere", new int[] {-2}, 0, NONE);
        dueTrail("no such way", new int[] {0, 2}, 0, NONE);
        dueTrail("the last number isn't so", new int[] {-1, -1, -1, 8, 7}, 0, NONE);
        fullTrails();
        test(31, "fits: AT a HEDGE it stays", () -> due("fits", hedgedTrail().fits(0, 0), 1));
        test(32, "began: AT a HEDGE it stays", () -> due("began", hedgedTrail().began(0, 0), 50));
    }

    private static SnailLaws hedgedTrail() {
        SnailLaws x = new SnailLaws();
        Check.add(x, SLOW, 40, 0, 8);
        x.hedge(50, 1);
        x.sheet(0, 8, 2);
        x.write(0, 0, 50);
        x.write(0, 1, 50);
        return x;
    }

    /** A sheet of the most numbers, of which the last tells where it is behind 39 DAYS. */
    private static SnailLaws fullTrail(int last) {
        SnailLaws x = new SnailLaws();
        Check.layLongWay(x);
        Check.add(x, SLOW, 0, 0, 80);
        x.sheet(3, 16, 40);
        for (int i = 0; i < 39; i++) {
            x.write(3, i, -1);
        }
        x.write(3, 39, last);
        return x;
    }

    private static void fullTrails() {
        test(31, "fits: the 40th number is where it is behind 39 DAYS",
            () -> due("fits", fullTrail(80).fits(3, 0), 40));
        test(32, "began: the 40th number is where it is behind 39 DAYS",
            () -> due("began", fullTrail(80).began(3, 0), 17));
        test(31, "fits: 40 numbers, all anywhere", () -> due("fits", fullTrail(-1).fits(3, 0), 81));
        test(32, "began: 40 numbers, all anywhere", () -> due("began", fullTrail(-1).began(3, 0), 0));
    }

    /**
     * SNAIL 0, a GREEDY one, goes along the first row, which is shut in, to 8; SNAIL 1 stays at 0,
     * where 4 of GREENS last 4 DAYS, or 2 if SNAIL 1 is GREEDY, too. A sheet tells 2 behind 3 DAYS.
     */
    private static SnailLaws grazingWith(int otherKind) {
        SnailLaws x = new SnailLaws();
        for (int cell = 9; cell < 18; cell++) {
            x.hedge(cell, 1);
        }
        Check.add(x, GREEDY, 4, 1, 8);
        Check.add(x, otherKind, 0, 2, 0);
        x.greens(0, 4);
        x.sheet(0, 8, 4);
        for (int i = 0; i < 4; i++) {
            x.write(0, i, i < 3 ? -1 : 2);
        }
        return x;
    }

    /** Only the releases are without the other SNAILS. */
    private static void others() {
        test(30, "farthest: GREENS that another SNAIL eats hold it less long", () -> {
            due("farthest(0, 6)", grazingWith(GREEDY).farthest(0, 6), 0);
            due("farthest(0, 5)", grazingWith(GREEDY).farthest(0, 5), 1);
            due("farthest(0, 6) if it doesn't eat", grazingWith(SNAIL).farthest(0, 6), 1);
        });
        test(31, "fits: GREENS that another SNAIL eats hold it less long", () -> {
            due("fits(0, 0)", grazingWith(GREEDY).fits(0, 0), 1);
            due("fits(0, 0) if it doesn't eat", grazingWith(SNAIL).fits(0, 0), 0);
        });
        test(32, "began: GREENS that another SNAIL eats hold it less long", () -> {
            due("began(0, 0)", grazingWith(GREEDY).began(0, 0), 0);
            due("began(0, 0) if it doesn't eat", grazingWith(SNAIL).began(0, 0), NONE);
        });
        test(28, "release: no thrush comes", () -> {
            SnailLaws x = fortySteps();
            x.set(1, 20);
            due("release(1, 0, 39)", x.release(1, 0, 39), NONE);
            due("count(6)", x.count(6), 1);
        });
    }

    private static void trailFindings() {
        test(31, "fits: MISSING, and nothing else changes", () -> refused(MISSING, x -> x.fits(3, 0)));
        test(32, "began: MISSING, and nothing else changes", () -> refused(MISSING, x -> x.began(3, 0)));
        test(31, "fits: MISSING is asked before BEYOND of the SNAIL", () -> refused(MISSING, x -> x.fits(3, 5)));
        test(32, "began: MISSING is asked before BEYOND of the SNAIL", () -> refused(MISSING, x -> x.began(3, 5)));
        test(31, "fits: no SNAIL at all", () -> {
            SnailLaws x = new SnailLaws();
            x.sheet(0, 8, 0);
            due("fits(0, 0)", x.fits(0, 0), BEYOND);
        });
        test(32, "began: no SNAIL at all", () -> {
            SnailLaws x = new SnailLaws();
            x.sheet(0, 8, 0);
            due("began(0, 0)", x.began(0, 0), BEYOND);
        });
        test(32, "began: NONE, and nothing else changes", () -> refused(NONE, x -> { }, x -> x.began(0, 0)));
        test(32, "began: BEYOND of the SNAIL is asked before NONE", () -> refused(BEYOND, x -> x.began(0, 5)));
        test(31, "fits: nothing changes", () -> unchanged(0, x -> { }, x -> x.fits(0, 0)));
        test(32, "began: nothing changes", () -> unchanged(80, x -> {
            x.sheet(3, 32, 1);
            x.write(3, 0, 80);
        }, x -> x.began(3, 0)));
    }

    public static void main(String[] args) {
        releases();
        releaseFindings();
        farthest();
        trails();
        others();
        trailFindings();
        Check.end("ReleaseEdgesTest", 28, 32);
    }
}
