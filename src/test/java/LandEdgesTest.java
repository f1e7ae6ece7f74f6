/** Promises 1 to 10, a test for each of their edges: the land, snails, laws. */
final class LandEdgesTest extends Edges {
    private static void nothingInANewObject() {
        test(1, "a new object: no SNAILS", () -> {
            SnailLaws x = new SnailLaws();
            due("count(1)", x.count(1), 0);
            due("of(0, 0)", x.of(0, 0), BEYOND);
        });
        test(1, "a new object: THE TAPE is empty", () -> {
            SnailLaws x = new SnailLaws();
            due("count(5)", x.count(5), 0);
            due("wipe()", x.wipe(), 0);
            due("text()", x.text(), -1);
        });
        test(1, "a new object: no image is kept", () -> {
            SnailLaws x = new SnailLaws();
            due("undo()", x.undo(), NONE);
            due("tear()", x.tear(), 0);
        });
        test(1, "a new object: no SPOT holds anything", () -> {
            SnailLaws x = new SnailLaws();
            due("count(7)", x.count(7), 0);
            for (int spot = 0; spot < 10; spot++) {
                due("as(" + spot + ", 0)", x.as(spot, 0), MISSING);
            }
        });
        test(1, "a new object: all SHEETS are MISSING", () -> {
            SnailLaws x = new SnailLaws();
            for (int s = 0; s < 4; s++) {
                due("judge(" + s + ")", x.judge(s), MISSING);
            }
        });
        test(1, "a new object: no act answered a finding", () -> {
            SnailLaws x = new SnailLaws();
            for (int which = -1; which < 7; which++) {
                due("status(" + which + ")", x.status(which), 0);
            }
        });
    }

    private static void newObject() {
        test(1, "a new object: no CELL is a HEDGE", () -> dueOfAll(0, 0));
        test(1, "a new object: GREENS are 0", () -> dueOfAll(1, 0));
        test(1, "a new object: no LAW is in force", () -> dueOfAll(2, -1));
        test(1, "a new object: BANS are none", () -> {
            SnailLaws x = new SnailLaws();
            for (int law = 0; law < 8; law++) {
                due("bans(" + law + ", 0)", x.bans(law, 0), 0);
            }
        });
        test(1, "a new object: WET is 5", () -> {
            due("now(4)", new SnailLaws().now(4), 5);
            due("set(0, 0)", new SnailLaws().set(0, 0), 5);
        });
        test(1, "a new object: THRUSH is 1", () -> due("set(1, 0)", new SnailLaws().set(1, 0), 1));
        test(1, "a new object: DAY is 0", () -> due("now(0)", new SnailLaws().now(0), 0));
        test(1, "a new object: CLASHES are 0", () -> due("now(1)", new SnailLaws().now(1), 0));
        test(1, "a new object: z is 1", () -> {
            due("count(6)", new SnailLaws().count(6), 1);
            due("seed(0)", new SnailLaws().seed(0), 1);
        });
        test(1, "objects have nothing together", () -> {
            laden().hedge(3, 1);
            SnailLaws x = new SnailLaws();
            for (int what = 0; what < 8; what++) {
                due("count(" + what + ")", x.count(what), what == 6 ? 1 : 0);
            }
        });
    }

    private static void dueOfAll(int what, int want) {
        SnailLaws x = new SnailLaws();
        for (int cell = 0; cell < 81; cell++) {
            due("land(" + cell + ", " + what + ")", x.land(cell, what), want);
        }
    }

    private static void hedges() {
        range(2, "hedge: CELL", 0, 80, (x, v) -> x.hedge(v, 1));
        range(2, "hedge: is", 0, 1, (x, v) -> x.hedge(3, v));
        test(2, "hedge: a CELL that is one now is new: 1", () -> due("hedge", laden().hedge(3, 1), 1));
        test(2, "hedge: a CELL that was one already: 0", () -> unchanged(0, x -> { }, x -> x.hedge(70, 1)));
        test(2, "hedge: a CELL that is none now is new: 1", () -> {
            SnailLaws x = laden();
            due("hedge(70, 0)", x.hedge(70, 0), 1);
            due("land(70, 0)", x.land(70, 0), 0);
        });
        test(2, "hedge: a CELL that was none already: 0", () -> unchanged(0, x -> { }, x -> x.hedge(3, 0)));
        test(2, "hedge: all CELLS", () -> {
            SnailLaws x = new SnailLaws();
            for (int cell = 0; cell < 81; cell++) {
                due("hedge(" + cell + ", 1)", x.hedge(cell, 1), 1);
            }
            due("count(2)", x.count(2), 81);
        });
    }

    private static void greens() {
        range(3, "greens: CELL", 0, 80, (x, v) -> x.greens(v, 1));
        range(3, "greens: v", 0, 9, (x, v) -> x.greens(3, v));
        test(3, "greens: from none to the most and back, each time what they were", () -> {
            SnailLaws x = new SnailLaws();
            due("greens(80, 9)", x.greens(80, 9), 0);
            due("greens(80, 9) again", x.greens(80, 9), 9);
            due("greens(80, 0)", x.greens(80, 0), 9);
            due("land(80, 1)", x.land(80, 1), 0);
        });
        test(3, "greens: the most at all CELLS", () -> {
            SnailLaws x = new SnailLaws();
            for (int cell = 0; cell < 81; cell++) {
                due("greens(" + cell + ", 9)", x.greens(cell, 9), 0);
            }
            due("now(3)", x.now(3), 729);
        });
    }

    private static void lands() {
        range(4, "land: CELL", 0, 80, (x, v) -> x.land(v, 0));
        range(4, "land: what", 0, 2, (x, v) -> x.land(3, v));
        test(4, "land: the first and the last LAW, and none", () -> {
            SnailLaws x = new SnailLaws();
            Check.add(x, 0, 0, 0, 0);
            Check.add(x, 0, 80, 7, 80);
            x.go(1);
            due("land(0, 2)", x.land(0, 2), 0);
            due("land(80, 2)", x.land(80, 2), 7);
            due("land(79, 2)", x.land(79, 2), -1);
        });
        test(4, "land: a LAW is in force at a HEDGE, too", () -> {
            SnailLaws x = new SnailLaws();
            Check.add(x, 0, 4, 6, 80);
            x.hedge(4, 1);
            x.go(1);
            due("land(4, 0)", x.land(4, 0), 1);
            due("land(4, 2)", x.land(4, 2), 6);
        });
    }

    private static void fars() {
        range(5, "far: from CELL", 0, 80, (x, v) -> x.far(v, 3));
        range(5, "far: to CELL", 0, 80, (x, v) -> x.far(3, v));
        test(5, "far: to itself 0", () -> due("far(0, 0)", new SnailLaws().far(0, 0), 0));
        test(5, "far: corner to corner 16", () -> {
            due("far(0, 80)", new SnailLaws().far(0, 80), 16);
            due("far(72, 8)", new SnailLaws().far(72, 8), 16);
        });
        test(5, "far: the end of a row isn't BESIDE the begin of the next", () -> {
            due("far(8, 9)", new SnailLaws().far(8, 9), 9);
            due("far(72, 71)", new SnailLaws().far(72, 71), 9);
        });
        test(5, "far: the first row isn't BESIDE the last", () -> {
            due("far(0, 72)", new SnailLaws().far(0, 72), 8);
            due("far(80, 8)", new SnailLaws().far(80, 8), 8);
        });
        test(5, "far: from a HEDGE 99", () -> due("far(70, 69)", laden().far(70, 69), 99));
        test(5, "far: to a HEDGE 99", () -> due("far(69, 70)", laden().far(69, 70), 99));
        test(5, "far: from HEDGE to HEDGE 99", () -> due("far(70, 71)", laden().far(70, 71), 99));
        test(5, "far: a HEDGE to itself 99", () -> due("far(70, 70)", laden().far(70, 70), 99));
        test(5, "far: over none that is a HEDGE", () -> due("far(61, 79)", laden().far(61, 79), 4));
        test(5, "far: no way 99, but 0 to itself", () -> {
            SnailLaws x = new SnailLaws();
            x.hedge(1, 1);
            x.hedge(9, 1);
            due("far(0, 80)", x.far(0, 80), 99);
            due("far(80, 0)", x.far(80, 0), 99);
            due("far(0, 0)", x.far(0, 0), 0);
        });
        test(5, "far: a long way of 48 steps", () -> {
            SnailLaws x = new SnailLaws();
            Check.layLongWay(x);
            due("far(0, 80)", x.far(0, 80), 48);
        });
    }

    private static void newSnails() {
        range(6, "snail: KIND", 0, 6, (x, v) -> x.snail(v, 3));
        range(6, "snail: CELL", 0, 80, (x, v) -> x.snail(0, v));
        test(6, "snail: numbers from 0 to 7", () -> {
            SnailLaws x = new SnailLaws();
            for (int s = 0; s < 8; s++) {
                due("snail", x.snail(6, 80), s);
            }
        });
        test(6, "snail: a 9th is FULL and changes nothing else",
            () -> refused(FULL, Edges::fillSnails, x -> x.snail(0, 0)));
        test(6, "snail: BEYOND (KIND) is asked before FULL",
            () -> refused(BEYOND, Edges::fillSnails, x -> x.snail(7, 0)));
        test(6, "snail: BEYOND (CELL) is asked before FULL",
            () -> refused(BEYOND, Edges::fillSnails, x -> x.snail(0, 81)));
        test(6, "snail: as at first it bears LAW 0, its GATE is 80, its PRICE 1", () -> {
            SnailLaws x = new SnailLaws();
            x.snail(4, 5);
            int[] want = {4, 5, 0, 80, 1};
            for (int what = 0; what < 5; what++) {
                due("of(0, " + what + ")", x.of(0, what), want[what]);
            }
        });
        test(6, "snail: no LAW comes in force before a DAY", () -> {
            SnailLaws x = new SnailLaws();
            x.snail(0, 5);
            due("land(5, 2)", x.land(5, 2), -1);
        });
        test(6, "snail: AT a HEDGE", () -> due("snail(0, 70)", laden().snail(0, 70), 5));
    }

    private static void ofSnails() {
        range(7, "of: SNAIL", 0, 4, (x, v) -> x.of(v, 0));
        range(7, "of: what", 0, 6, (x, v) -> x.of(0, v));
        test(7, "of: no SNAIL at all", () -> due("of(0, 0)", new SnailLaws().of(0, 0), BEYOND));
        test(7, "of: eight SNAILS, the last", () -> {
            SnailLaws x = laden();
            fillSnails(x);
            due("of(7, 0)", x.of(7, 0), 2);
            due("of(8, 0)", x.of(8, 0), BEYOND);
        });
        test(7, "of: FAR is 0 AT its GATE", () -> dueFar(40, 40, 0, 0));
        test(7, "of: FAR is 99 AT a HEDGE", () -> dueFar(39, 40, 39, 99));
        test(7, "of: FAR is 99 if its GATE is a HEDGE", () -> dueFar(39, 40, 40, 99));
        test(7, "of: FAR is 99 AT its GATE, if that is a HEDGE", () -> dueFar(40, 40, 40, 99));
        test(7, "of: FAR is 99 without a way", () -> {
            SnailLaws x = new SnailLaws();
            Check.add(x, 0, 0, 0, 80);
            x.hedge(1, 1);
            due("of(0, 6) with a way left", x.of(0, 6), 16);
            x.hedge(9, 1);
            due("of(0, 6)", x.of(0, 6), 99);
        });
    }

    private static void dueFar(int at, int gate, int hedge, int want) {
        SnailLaws x = new SnailLaws();
        Check.add(x, 0, at, 0, gate);
        if (at != gate || want == 99) {
            x.hedge(hedge, 1);
        }
        due("of(0, 6)", x.of(0, 6), want);
    }

    /** MOVES of a KIND by WET, DAY, and GREENS at its CELL. */
    private static void dueMoves(String edge, int kind, int wet, int day, int greens, int want) {
        test(7, "of: MOVES, " + edge, () -> {
            SnailLaws x = new SnailLaws();
            if (day > 0) {
                x.go(day);
            }
            x.snail(kind, 40);
            x.set(0, wet);
            x.greens(40, greens);
            due("of(0, 5)", x.of(0, 5), want);
        });
    }

    private static void moves() {
        dueMoves("a SNAIL, WET 0, the first", 0, 0, 0, 0, 1);
        dueMoves("a SNAIL, WET 4: the quotient is cut", 0, 4, 0, 0, 1);
        dueMoves("a SNAIL, WET 5", 0, 5, 0, 0, 2);
        dueMoves("a SNAIL, WET 9, the last: cut", 0, 9, 0, 0, 2);
        dueMoves("a SNAIL at an odd DAY with GREENS", 0, 5, 1, 9, 2);
        dueMoves("GREEDY without GREENS as a SNAIL", 1, 9, 0, 0, 2);
        dueMoves("GREEDY in the dry", 1, 4, 0, 0, 1);
        dueMoves("GREEDY with one of GREENS 0", 1, 9, 0, 1, 0);
        dueMoves("GREEDY with the most GREENS 0", 1, 9, 0, 9, 0);
        dueMoves("SLOW in the wet", 2, 5, 1, 9, 1);
        dueMoves("SLOW in the dry 0", 2, 4, 0, 0, 0);
        dueMoves("SLEEPY at DAY 0 as SLOW", 3, 5, 0, 0, 1);
        dueMoves("SLEEPY at DAY 1 else 0", 3, 5, 1, 0, 0);
        dueMoves("SLEEPY at DAY 2 as SLOW", 3, 9, 2, 0, 1);
        dueMoves("SLEEPY at DAY 5, which 5 parts, 0", 3, 9, 5, 0, 0);
        dueMoves("SLEEPY in the dry 0", 3, 4, 0, 0, 0);
        dueMoves("ELDER at DAY 0, even and by 5", 4, 5, 0, 0, 2);
        dueMoves("ELDER at DAY 1 0", 4, 5, 1, 0, 0);
        dueMoves("ELDER at DAY 4 as SLEEPY", 4, 5, 4, 0, 1);
        dueMoves("ELDER at DAY 5, odd and by 5", 4, 5, 5, 0, 1);
        dueMoves("ELDER at DAY 6 as SLEEPY", 4, 5, 6, 0, 1);
        dueMoves("ELDER at DAY 10, even and by 5", 4, 5, 10, 0, 2);
        dueMoves("ELDER in the dry at DAY 0", 4, 4, 0, 0, 1);
        dueMoves("ELDER in the dry at DAY 2 0", 4, 4, 2, 0, 0);
        dueMoves("BORNE at WET 0 3", 5, 0, 1, 0, 3);
        dueMoves("BORNE at WET 9 with GREENS 3", 5, 9, 0, 9, 3);
        dueMoves("a GLUTTON twice as GREEDY", 6, 9, 1, 0, 4);
        dueMoves("a GLUTTON in the dry", 6, 4, 0, 0, 2);
        dueMoves("a GLUTTON with one of GREENS 0", 6, 9, 0, 1, 0);
    }

    private static void changes() {
        range(8, "change: SNAIL", 0, 4, (x, v) -> x.change(v, 0, 0));
        range(8, "change: what", 0, 4, (x, v) -> x.change(0, v, 0));
        range(8, "change: KIND", 0, 6, (x, v) -> x.change(1, 0, v));
        range(8, "change: AT", 0, 80, (x, v) -> x.change(1, 1, v));
        range(8, "change: LAW", 0, 7, (x, v) -> x.change(1, 2, v));
        range(8, "change: GATE", 0, 80, (x, v) -> x.change(1, 3, v));
        range(8, "change: PRICE", 0, 99, (x, v) -> x.change(1, 4, v));
        int[] lasts = {6, 80, 7, 80, 99};
        int[] firsts = {0, 0, 0, 80, 1};
        for (int w = 0; w < 5; w++) {
            int what = w;
            test(8, "change: what " + what + " to its last and its first, each time what it was", () -> {
                SnailLaws x = new SnailLaws();
                x.snail(0, 0);
                due("to the last", x.change(0, what, lasts[what]), firsts[what]);
                due("of it", x.of(0, what), lasts[what]);
                due("to the first", x.change(0, what, 0), lasts[what]);
                due("of it", x.of(0, what), 0);
            });
        }
        test(8, "change: no SNAIL at all", () -> due("change", new SnailLaws().change(0, 0, 0), BEYOND));
        test(8, "change: AT brings no LAW in force", () -> {
            SnailLaws x = laden();
            int before = x.count(4);
            x.change(0, 1, 30);
            due("count(4)", x.count(4), before);
        });
    }

    private static void bansAndSets() {
        range(9, "bans: LAW", 0, 7, (x, v) -> x.bans(v, 1));
        range(9, "bans: set", 0, 255, (x, v) -> x.bans(3, v));
        test(9, "bans: from none to all and back, each time what they were", () -> {
            SnailLaws x = new SnailLaws();
            due("bans(7, 255)", x.bans(7, 255), 0);
            due("bans(7, 0)", x.bans(7, 0), 255);
            due("bans(7, 1)", x.bans(7, 1), 0);
        });
        range(10, "set: what", 0, 1, (x, v) -> x.set(v, 5));
        range(10, "set: WET", 0, 9, (x, v) -> x.set(0, v));
        range(10, "set: THRUSH", 0, 20, (x, v) -> x.set(1, v));
        test(10, "set: WET to its last and its first, each time what it was", () -> {
            SnailLaws x = new SnailLaws();
            due("set(0, 9)", x.set(0, 9), 5);
            due("set(0, 0)", x.set(0, 0), 9);
            due("now(4)", x.now(4), 0);
        });
        test(10, "set: THRUSH to its last and its first, each time what it was", () -> {
            SnailLaws x = new SnailLaws();
            due("set(1, 20)", x.set(1, 20), 1);
            due("set(1, 0)", x.set(1, 0), 20);
            due("set(1, 0) again", x.set(1, 0), 0);
        });
        test(10, "set: 10 is no WET, but a THRUSH", () -> {
            SnailLaws x = new SnailLaws();
            due("set(1, 10)", x.set(1, 10), 1);
            due("set(0, 10)", x.set(0, 10), BEYOND);
        });
    }

    public static void main(String[] args) {
        nothingInANewObject();
        newObject();
        hedges();
        greens();
        lands();
        fars();
        newSnails();
        ofSnails();
        moves();
        changes();
        bansAndSets();
        Check.end("LandEdgesTest", 1, 10);
    }
}
