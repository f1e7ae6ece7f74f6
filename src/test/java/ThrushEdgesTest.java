/** Promises 33 to 35, a test for each of their edges: thrushes. */
final class ThrushEdgesTest extends Edges {
    /** The rests of the draws by 20, from z 1 on. */
    private static final int[] RESTS = {14, 12, 16, 3, 7, 16, 10, 6};

    private static void thrushes() {
        range(33, "thrushes: n", 1, 20, (x, v) -> x.thrushes(v));
        test(33, "thrushes: 1 DAY, the fewest", () -> {
            SnailLaws x = new SnailLaws();
            x.thrushes(1);
            due("now(0)", x.now(0), 1);
        });
        test(33, "thrushes: 20 DAYS, the most", () -> {
            SnailLaws x = new SnailLaws();
            x.thrushes(20);
            due("now(0)", x.now(0), 20);
        });
        test(33, "thrushes: without SNAILS no draw", () -> {
            SnailLaws x = new SnailLaws();
            x.set(1, 20);
            due("thrushes(20)", x.thrushes(20), 0);
            due("count(6)", x.count(6), 1);
        });
        test(33, "thrushes: THRUSH 0, the first: none, but it is drawn", () -> {
            SnailLaws x = new SnailLaws();
            x.set(1, 0);
            x.seed(0);
            Check.add(x, 0, 40, 0, 40);
            due("thrushes(1)", x.thrushes(1), 0);
            due("count(6)", x.count(6), 12345);
            due("thrushes(20)", x.thrushes(20), 0);
            due("of(0, 1)", x.of(0, 1), 40);
        });
        test(33, "thrushes: THRUSH 20, the last: all SNAILS on all DAYS", () -> {
            SnailLaws x = new SnailLaws();
            x.set(1, 20);
            for (int s = 0; s < 8; s++) {
                Check.add(x, 0, 40, 0, 0);
            }
            due("thrushes(20)", x.thrushes(20), 160);
            due("now(5)", x.now(5), 255);
        });
        test(33, "thrushes: a rest that THRUSH is above", () -> {
            for (int i = 0; i < RESTS.length; i++) {
                dueDraw(i, RESTS[i] + 1, 1);
            }
        });
        test(33, "thrushes: a rest that is THRUSH isn't below it", () -> {
            for (int i = 0; i < RESTS.length; i++) {
                dueDraw(i, RESTS[i], 0);
            }
        });
        test(33, "thrushes: the draw is ahead of the DAY: from CELL 0 it moves", () -> {
            SnailLaws x = new SnailLaws();
            x.set(1, 20);
            Check.add(x, 5, 40, 6, 80);
            due("thrushes(1)", x.thrushes(1), 1);
            due("of(0, 1)", x.of(0, 1), 3);
            due("land(0, 2)", x.land(0, 2), 6);
            due("land(40, 2)", x.land(40, 2), -1);
        });
        test(33, "thrushes: each that is caught AT CELL 0 already counts", () -> {
            SnailLaws x = new SnailLaws();
            x.set(1, 20);
            Check.add(x, 0, 0, 0, 0);
            due("thrushes(3)", x.thrushes(3), 3);
        });
        test(33, "thrushes: by numbers: the first draw, of rest 14, is that of SNAIL 0", () -> {
            SnailLaws x = new SnailLaws();
            x.set(1, 13);
            Check.add(x, 0, 40, 0, 40);
            Check.add(x, 0, 40, 0, 40);
            due("thrushes(1)", x.thrushes(1), 1);
            due("of(0, 1)", x.of(0, 1), 40);
            due("of(1, 1)", x.of(1, 1), 2);
        });
        test(33, "thrushes: ahead of each DAY anew: 14 isn't, 12 is below 13", () -> {
            SnailLaws x = new SnailLaws();
            x.set(1, 13);
            Check.add(x, 0, 40, 0, 40);
            due("thrushes(2)", x.thrushes(2), 1);
            due("of(0, 1)", x.of(0, 1), 2);
        });
    }

    /** Behind some draws of one SNAIL that nothing catches, the next DAY by THRUSH. */
    private static void dueDraw(int before, int thrush, int want) {
        SnailLaws x = new SnailLaws();
        Check.add(x, 0, 40, 0, 40);
        x.set(1, 0);
        if (before > 0) {
            x.thrushes(before);
        }
        x.set(1, thrush);
        due("draw " + before + " by THRUSH " + thrush, x.thrushes(1), want);
        due("of(0, 1)", x.of(0, 1), want == 1 ? 2 : 40);
    }

    /** z behind one draw that begins at another. */
    private static void dueNext(String edge, int z, int want) {
        test(35, "draws: " + edge, () -> {
            SnailLaws x = new SnailLaws();
            x.snail(0, 0);
            due("seed(" + z + ")", x.seed(z), 1);
            x.thrushes(1);
            due("count(6)", x.count(6), want);
        });
    }

    private static void draws() {
        dueNext("z is 1 at first", 1, 1103527590);
        dueNext("z 0", 0, 12345);
        dueNext("z wraps round below 0", 2, -2087924461);
        dueNext("the greatest z", GREATEST, 1043980748);
        dueNext("the least z", LEAST, -2147471303);
        dueNext("z -1", -1, -1103502900);
        test(35, "draws: z below 0 gives z >>> 8, without its sign: the rest is 17", () -> {
            SnailLaws x = new SnailLaws();
            Check.add(x, 0, 40, 0, 40);
            x.seed(-1);
            x.set(1, 17);
            due("by THRUSH 17", x.thrushes(1), 0);
            x.seed(-1);
            x.set(1, 18);
            due("by THRUSH 18", x.thrushes(1), 1);
        });
        test(35, "draws: each SNAIL on each DAY makes one", () -> {
            SnailLaws x = new SnailLaws();
            x.snail(0, 40);
            x.snail(0, 40);
            x.set(1, 0);
            x.thrushes(2);
            int z = x.count(6);
            x = new SnailLaws();
            x.snail(0, 40);
            x.set(1, 0);
            x.thrushes(4);
            due("count(6)", x.count(6), z);
        });
    }

    /** The odds by a THRUSH of some DAYS. */
    private static void dueOdds(String edge, int thrush, int n, long above, long below) {
        test(34, "alone: " + edge, () -> {
            SnailLaws x = new SnailLaws();
            x.set(1, thrush);
            due("alone(" + n + ", 0)", x.alone(n, 0), above);
            due("alone(" + n + ", 1)", x.alone(n, 1), below);
        });
    }

    private static void alone() {
        range(34, "alone: n", 0, 14, (x, v) -> x.alone(v, 0));
        range(34, "alone: what", 0, 1, (x, v) -> x.alone(1, v));
        dueOdds("0 DAYS: 1 of 1", 7, 0, 1, 1);
        dueOdds("1 DAY, THRUSH 1: 19 of 20", 1, 1, 19, 20);
        dueOdds("14 DAYS, the most, THRUSH 1", 1, 14, 799006685782884121L, 1638400000000000000L);
        dueOdds("14 DAYS, the most, THRUSH 19", 19, 14, 1, 1638400000000000000L);
        dueOdds("THRUSH 0, the first: 1 of 1", 0, 14, 1, 1);
        dueOdds("THRUSH 20, the last: 0 of 1", 20, 14, 0, 1);
        dueOdds("THRUSH 20, 1 DAY: 0 of 1", 20, 1, 0, 1);
        dueOdds("THRUSH 20, 0 DAYS: 1 of 1", 20, 0, 1, 1);
        dueOdds("in lowest terms: 18 of 20 is 9 of 10", 2, 2, 81, 100);
        dueOdds("in lowest terms: 16 of 20 is 4 of 5", 4, 2, 16, 25);
        dueOdds("in lowest terms: 15 of 20 is 3 of 4", 5, 2, 9, 16);
        dueOdds("in lowest terms: 10 of 20 is 1 of 2", 10, 14, 1, 16384);
        dueOdds("in lowest terms: 2 of 20 is 1 of 10", 18, 14, 1, 100000000000000L);
        test(34, "alone: nothing changes", () -> unchanged(379749833583241L, x -> { }, x -> x.alone(14, 0)));
    }

    private static void seed() {
        test(35, "seed: the least and the greatest int, each time what it was", () -> {
            SnailLaws x = new SnailLaws();
            due("seed(LEAST)", x.seed(LEAST), 1);
            due("seed(GREATEST)", x.seed(GREATEST), LEAST);
            due("seed(0)", x.seed(0), GREATEST);
            due("count(6)", x.count(6), 0);
        });
        for (int f = 0; f < 7; f++) {
            int z = BEYOND - f;
            test(35, "seed: z " + z + " is no finding", () -> {
                SnailLaws x = new SnailLaws();
                x.seed(z);
                due("count(6)", x.count(6), z);
                due("seed(5)", x.seed(5), z);
                due("status(-1)", x.status(-1), 0);
            });
        }
        test(35, "seed: nothing else changes", () -> changesAs(77, x -> { }, x -> x.seed(8), x -> x.seed(8)));
    }

    public static void main(String[] args) {
        thrushes();
        draws();
        alone();
        seed();
        Check.end("ThrushEdgesTest", 33, 35);
    }
}
