import java.util.function.Consumer;

/** Promises 19 to 27, a test for each of their edges: what will be. */
final class FutureEdgesTest extends Edges {
    private static final int SNAIL = 0;
    private static final int GREEDY = 1;
    private static final int SLOW = 2;
    private static final int ELDER = 4;
    private static final int BORNE = 5;

    /** An ELDER on the long way in the dry: one step at each DAY that 5 parts; its LAW is 1. */
    private static SnailLaws elder(int day) {
        SnailLaws x = new SnailLaws();
        Check.layLongWay(x);
        x.set(0, 0);
        if (day > 0) {
            x.go(day);
        }
        Check.add(x, ELDER, 0, 1, 80);
        return x;
    }

    /** From DAY 1 its 20th step, to 36, is on the 100th DAY. */
    private static SnailLaws elderOfTwentySteps() {
        return elder(1);
    }

    /** From DAY 0 its 21st step, to 37, is on the 101st DAY. */
    private static SnailLaws elderOfTwentyOneSteps() {
        return elder(0);
    }

    /** A SNAIL that gets no further than its GATE at 3, and one that never finds a way. */
    private static SnailLaws twoSnails() {
        SnailLaws x = new SnailLaws();
        Check.add(x, SNAIL, 0, 1, 3);
        Check.add(x, SNAIL, 80, 2, 0);
        x.hedge(71, 1);
        x.hedge(79, 1);
        return x;
    }

    private static void ahead() {
        range(19, "ahead: SNAIL", 0, 4, (x, v) -> x.ahead(v, 1));
        range(19, "ahead: n", 0, 100, (x, v) -> x.ahead(1, v));
        test(19, "ahead: no SNAIL at all", () -> due("ahead(0, 0)", new SnailLaws().ahead(0, 0), BEYOND));
        test(19, "ahead: behind 0 DAYS where it is now", () -> due("ahead(1, 0)", laden().ahead(1, 0), 2));
        test(19, "ahead: behind 1 DAY", () -> due("ahead(1, 1)", laden().ahead(1, 1), 4));
        test(19, "ahead: behind 99 DAYS", () -> due("ahead(0, 99)", elderOfTwentySteps().ahead(0, 99), 27));
        test(19, "ahead: behind 100 DAYS", () -> due("ahead(0, 100)", elderOfTwentySteps().ahead(0, 100), 36));
        test(19, "ahead: AT its GATE it is behind 100 DAYS too", () -> due("ahead", twoSnails().ahead(0, 100), 3));
        test(19, "ahead: without a way it stays", () -> due("ahead", twoSnails().ahead(1, 100), 80));
        test(19, "ahead: nothing changes", () -> unchanged(0, x -> { }, x -> x.ahead(2, 100)));
    }

    private static void lawAt() {
        range(20, "lawAt: CELL", 0, 80, (x, v) -> x.lawAt(v, 1));
        range(20, "lawAt: n", 0, 100, (x, v) -> x.lawAt(0, v));
        test(20, "lawAt: without SNAILS none", () -> due("lawAt(0, 100)", new SnailLaws().lawAt(0, 100), -1));
        test(20, "lawAt: behind 0 DAYS the one that is in force now", () -> due("lawAt", laden().lawAt(3, 0), 2));
        test(20, "lawAt: behind 0 DAYS none yet where a SNAIL is", () -> due("lawAt", twoSnails().lawAt(0, 0), -1));
        test(20, "lawAt: behind 1 DAY", () -> due("lawAt(0, 1)", twoSnails().lawAt(0, 1), 1));
        test(20, "lawAt: behind 99 DAYS", () -> due("lawAt", elderOfTwentySteps().lawAt(36, 99), -1));
        test(20, "lawAt: behind 100 DAYS", () -> due("lawAt", elderOfTwentySteps().lawAt(36, 100), 1));
        test(20, "lawAt: LAW 0, the first, isn't none", () -> {
            SnailLaws x = twoSnails();
            x.change(0, 2, 0);
            due("lawAt(3, 100)", x.lawAt(3, 100), 0);
        });
        test(20, "lawAt: nothing changes", () -> unchanged(1, x -> { }, x -> x.lawAt(8, 100)));
    }

    private static void reaches() {
        range(21, "reaches: LAW", 0, 7, (x, v) -> x.reaches(v, 3));
        range(21, "reaches: CELL", 0, 80, (x, v) -> x.reaches(1, v));
        test(21, "reaches: in force now 0", () -> unchanged(0, x -> { }, x -> x.reaches(5, 80)));
        test(21, "reaches: behind 1 DAY", () -> due("reaches(1, 0)", twoSnails().reaches(1, 0), 1));
        test(21, "reaches: behind 100 DAYS", () -> due("reaches", elderOfTwentySteps().reaches(1, 36), 100));
        test(21, "reaches: behind 101 DAYS is NONE",
            () -> due("reaches", elderOfTwentyOneSteps().reaches(1, 37), NONE));
        test(21, "reaches: without SNAILS NONE", () -> due("reaches", new SnailLaws().reaches(0, 0), NONE));
        test(21, "reaches: a LAW that no SNAIL bears is NONE, and nothing else changes",
            () -> refused(NONE, x -> { }, x -> x.reaches(7, 0)));
        test(21, "reaches: a CELL on no way is NONE", () -> due("reaches", twoSnails().reaches(1, 9), NONE));
        test(21, "reaches: a LAW that another one follows on the same DAY isn't in force behind it", () -> {
            SnailLaws x = twoSnails();
            Check.add(x, SNAIL, 2, 3, 2);
            due("reaches(1, 2)", x.reaches(1, 2), NONE);
            due("reaches(1, 1)", x.reaches(1, 1), 1);
        });
        test(21, "reaches: BEYOND is asked before NONE", () -> refused(BEYOND, x -> x.reaches(7, 81)));
        test(21, "reaches: nothing changes", () -> unchanged(3, x -> { }, x -> x.reaches(1, 8)));
    }

    /** A GREEDY one on the long way: GREENS hold it 9 DAYS at each second CELL, but at the last one of them. */
    private static SnailLaws grazing(int cells, int last) {
        int[] way = {0, 2, 4, 6, 8, 26, 24, 22, 20, 18, 36, 38};
        SnailLaws x = new SnailLaws();
        Check.layLongWay(x);
        Check.add(x, 1, 0, 1, 80);
        for (int i = 0; i < cells; i++) {
            x.greens(way[i], i == cells - 1 ? last : 9);
        }
        return x;
    }

    private static void wetFor() {
        range(22, "wetFor: LAW", 0, 7, (x, v) -> x.wetFor(v, 3));
        range(22, "wetFor: CELL", 0, 80, (x, v) -> x.wetFor(1, v));
        test(22, "wetFor: in force now, by any: 0, the least", () -> due("wetFor", laden().wetFor(5, 80), 0));
        test(22, "wetFor: equally soon by all: 0, the least", () -> due("wetFor", twoSnails().wetFor(1, 1), 0));
        test(22, "wetFor: sooner from 5 on: 5, the least", () -> {
            SnailLaws x = twoSnails();
            x.set(0, 0);
            due("wetFor(1, 3)", x.wetFor(1, 3), 5);
            due("now(4)", x.now(4), 0);
        });
        test(22, "wetFor: by the dry alone", () -> {
            SnailLaws x = new SnailLaws();
            Check.add(x, SNAIL, 0, 1, 8);
            Check.add(x, SNAIL, 3, 2, 1);
            due("reaches(1, 1)", x.reaches(1, 1), NONE);
            due("wetFor(1, 1)", x.wetFor(1, 1), 0);
        });
        test(22, "wetFor: behind 100 DAYS by 5, and later in the dry", () -> {
            SnailLaws x = grazing(11, 9);
            due("wetFor(1, 38)", x.wetFor(1, 38), 5);
            due("reaches(1, 38)", x.reaches(1, 38), 100);
            x.set(0, 0);
            due("reaches(1, 38) in the dry", x.reaches(1, 38), NONE);
        });
        test(22, "wetFor: behind 101 DAYS is by none: NONE", () -> due("wetFor", grazing(12, 1).wetFor(1, 40), NONE));
        test(22, "wetFor: by none NONE, and nothing else changes",
            () -> refused(NONE, x -> { }, x -> x.wetFor(7, 0)));
        test(22, "wetFor: without SNAILS NONE", () -> due("wetFor", new SnailLaws().wetFor(0, 0), NONE));
        test(22, "wetFor: nothing changes", () -> unchanged(5, x -> { }, x -> x.wetFor(1, 8)));
    }

    private static void comes() {
        range(23, "comes: SNAIL", 0, 4, (x, v) -> x.comes(v));
        test(23, "comes: no SNAIL at all", () -> due("comes(0)", new SnailLaws().comes(0), BEYOND));
        test(23, "comes: AT its GATE now 0", () -> due("comes(0)", laden().comes(0), 0));
        test(23, "comes: AT its GATE now, though that is a HEDGE, 0", () -> {
            SnailLaws x = laden();
            x.hedge(80, 1);
            due("comes(0)", x.comes(0), 0);
        });
        test(23, "comes: behind 100 DAYS", () -> {
            SnailLaws x = elderOfTwentySteps();
            x.change(0, 3, 36);
            due("comes(0)", x.comes(0), 100);
        });
        test(23, "comes: behind 101 DAYS is NONE", () -> {
            SnailLaws x = elderOfTwentyOneSteps();
            x.change(0, 3, 37);
            due("comes(0)", x.comes(0), NONE);
        });
        test(23, "comes: without a way NONE", () -> due("comes(1)", twoSnails().comes(1), NONE));
        test(23, "comes: from a HEDGE NONE, and nothing else changes", () -> refused(NONE, x -> { }, x -> x.comes(4)));
        test(23, "comes: its GATE is a HEDGE: NONE",
            () -> refused(NONE, x -> x.hedge(8, 1), x -> x.comes(1)));
        test(23, "comes: nothing changes", () -> unchanged(3, x -> { }, x -> x.comes(1)));
    }

    /** The KIND as which a SNAIL at a FAR of so much is soonest there. */
    private static void dueKind(String edge, int far, int wet, int day, int greens, int want) {
        test(24, "kindFor: " + edge, () -> {
            SnailLaws x = new SnailLaws();
            if (day > 0) {
                x.go(day);
            }
            Check.add(x, ELDER, 0, 0, far);
            x.set(0, wet);
            x.greens(0, greens);
            due("kindFor(0)", x.kindFor(0), want);
            due("of(0, 0)", x.of(0, 0), ELDER);
        });
    }

    private static void kindFor() {
        range(24, "kindFor: SNAIL", 0, 4, (x, v) -> x.kindFor(v));
        test(24, "kindFor: no SNAIL at all", () -> due("kindFor(0)", new SnailLaws().kindFor(0), BEYOND));
        dueKind("AT its GATE, as any: 0, the least", 0, 5, 0, 0, 0);
        dueKind("equally soon as several: 0, the least", 1, 0, 0, 0, 0);
        dueKind("soonest as one that is BORNE", 3, 0, 0, 0, 5);
        dueKind("soonest as a GLUTTON, the last", 4, 5, 0, 0, 6);
        dueKind("GREENS hold a GREEDY one, not one that is BORNE", 3, 5, 0, 9, 5);
        test(24, "kindFor: without a way as none: NONE", () -> due("kindFor(1)", twoSnails().kindFor(1), NONE));
        test(24, "kindFor: from a HEDGE NONE, and nothing else changes",
            () -> refused(NONE, x -> { }, x -> x.kindFor(4)));
        test(24, "kindFor: nothing changes", () -> unchanged(5, x -> { }, x -> x.kindFor(1)));
    }

    private static void overtakes() {
        range(25, "overtakes: the one SNAIL", 0, 3, (x, v) -> x.overtakes(v, 4));
        range(25, "overtakes: the other SNAIL", 1, 4, (x, v) -> x.overtakes(0, v));
        test(25, "overtakes: SNAIL 5, outside, is BEYOND", () -> refused(BEYOND, x -> x.overtakes(5, 0)));
        test(25, "overtakes: SNAIL -1, outside, is BEYOND", () -> refused(BEYOND, x -> x.overtakes(0, -1)));
        test(25, "overtakes: one and the same is BEYOND", () -> {
            refused(BEYOND, x -> x.overtakes(0, 0));
            refused(BEYOND, x -> x.overtakes(4, 4));
        });
        test(25, "overtakes: less FAR now 0", () -> dueOvertaking(SNAIL, 1, SLOW, 0, 0));
        test(25, "overtakes: equally FAR isn't less", () -> dueOvertaking(SLOW, 0, SLOW, 0, NONE));
        test(25, "overtakes: equally FAR now, less behind 1 DAY", () -> dueOvertaking(SNAIL, 0, SLOW, 0, 1));
        test(25, "overtakes: both AT their GATES at last is not less", () -> dueOvertaking(SLOW, 0, SNAIL, 1, NONE));
        test(25, "overtakes: behind 100 DAYS", () -> {
            SnailLaws x = elderOfTwentySteps();
            Check.add(x, SLOW, 27, 0, 80);
            due("overtakes(0, 1)", x.overtakes(0, 1), 100);
        });
        test(25, "overtakes: behind 101 DAYS is NONE", () -> {
            SnailLaws x = elderOfTwentyOneSteps();
            Check.add(x, SLOW, 36, 0, 80);
            due("overtakes(0, 1)", x.overtakes(0, 1), NONE);
        });
        test(25, "overtakes: FAR 99 of both is not less", () -> {
            SnailLaws x = laden();
            x.hedge(8, 1);
            due("overtakes(2, 1)", x.overtakes(2, 1), NONE);
        });
        test(25, "overtakes: the other one is AT a HEDGE: less FAR than 99",
            () -> due("overtakes(1, 4)", laden().overtakes(1, 4), 0));
        test(25, "overtakes: the other one is shut in: less FAR than 99", () -> {
            SnailLaws x = twoSnails();
            Check.add(x, SNAIL, 40, 0, 40);
            due("overtakes(2, 1)", x.overtakes(2, 1), 0);
            due("overtakes(1, 2)", x.overtakes(1, 2), NONE);
        });
        test(25, "overtakes: by the GATE of the other one, not by its own", () -> {
            SnailLaws x = new SnailLaws();
            Check.add(x, SNAIL, 40, 0, 0);
            Check.add(x, SLOW, 0, 0, 80);
            due("overtakes(0, 1)", x.overtakes(0, 1), 0);
            due("overtakes(1, 0)", x.overtakes(1, 0), 0);
            x.change(0, 1, 0);
            due("overtakes(0, 1) from the same CELL", x.overtakes(0, 1), NONE);
        });
        test(25, "overtakes: NONE, and nothing else changes", () -> refused(NONE, x -> { }, x -> x.overtakes(4, 0)));
        test(25, "overtakes: nothing changes", () -> unchanged(0, x -> { }, x -> x.overtakes(1, 2)));
    }

    /** SNAIL 0 of a KIND at a CELL of the first row, SNAIL 1 likewise, both to CELL 8. */
    private static void dueOvertaking(int kind, int at, int otherKind, int otherAt, int want) {
        SnailLaws x = new SnailLaws();
        Check.add(x, kind, at, 0, 8);
        Check.add(x, otherKind, otherAt, 0, 8);
        due("overtakes(0, 1)", x.overtakes(0, 1), want);
    }

    private static void lag() {
        range(26, "lag: LAW", 0, 7, (x, v) -> x.lag(v, 5, 80));
        range(26, "lag: another LAW", 0, 7, (x, v) -> x.lag(5, v, 80));
        range(26, "lag: CELL", 0, 80, (x, v) -> x.lag(1, 2, v));
        test(26, "lag: of a LAW and itself 0", () -> due("lag", lagging(SNAIL, SLOW).lag(1, 1, 4), 0));
        test(26, "lag: behind more DAYS above 0", () -> due("lag", lagging(SNAIL, SLOW).lag(2, 1, 4), 2));
        test(26, "lag: behind fewer DAYS below 0", () -> due("lag", lagging(SNAIL, SLOW).lag(1, 2, 4), -2));
        test(26, "lag: 100, the most, and -100, the least", () -> {
            SnailLaws x = elder(0);
            Check.add(x, SLOW, 36, 2, 80);
            x.go(1);
            x.change(0, 1, 0);
            x.change(1, 1, 80);
            due("lag(1, 2, 36)", x.lag(1, 2, 36), 100);
            due("lag(2, 1, 36)", x.lag(2, 1, 36), -100);
        });
        test(26, "lag: one comes behind 101 DAYS: NONE", () -> {
            SnailLaws x = elderOfTwentyOneSteps();
            Check.add(x, BORNE, 80, 2, 0);
            due("lag(2, 1, 36)", x.lag(2, 1, 36), 10 - 96);
            due("reaches(2, 37)", x.reaches(2, 37), 9);
            due("lag(2, 1, 37)", x.lag(2, 1, 37), NONE);
            due("lag(1, 2, 37)", x.lag(1, 2, 37), NONE);
        });
        test(26, "lag: the one isn't: NONE, and nothing else changes",
            () -> refused(NONE, x -> { }, x -> x.lag(7, 5, 80)));
        test(26, "lag: the other isn't: NONE, and nothing else changes",
            () -> refused(NONE, x -> { }, x -> x.lag(5, 7, 80)));
        test(26, "lag: neither is: NONE, and nothing else changes",
            () -> refused(NONE, x -> { }, x -> x.lag(7, 7, 80)));
        test(26, "lag: BEYOND is asked before NONE", () -> refused(BEYOND, x -> x.lag(7, 7, 81)));
        test(26, "lag: nothing changes", () -> unchanged(-1, x -> { }, x -> x.lag(1, 2, 2)));
    }

    /** LAW 1 by one KIND, LAW 2 by another, both from 0 to 4. */
    private static SnailLaws lagging(int kind, int otherKind) {
        SnailLaws x = new SnailLaws();
        Check.add(x, kind, 0, 1, 4);
        Check.add(x, otherKind, 0, 2, 4);
        return x;
    }

    private static void clash() {
        range(27, "clash: n", 0, 40, (x, v) -> x.clash(v));
        test(27, "clash: in 0 DAYS NONE, and nothing else changes", () -> refused(NONE, x -> { }, x -> x.clash(0)));
        test(27, "clash: without SNAILS NONE", () -> due("clash(40)", new SnailLaws().clash(40), NONE));
        test(27, "clash: SNAILS of one LAW: NONE", () -> {
            SnailLaws x = twoSnails();
            Check.add(x, SNAIL, 0, 1, 3);
            due("clash(40)", x.clash(40), NONE);
        });
        test(27, "clash: on the 40th DAY", () -> dueLastClash(40, 0));
        test(27, "clash: not yet on the 39th DAY", () -> dueLastClash(39, NONE));
        test(27, "clash: on the first DAY", () -> due("clash(1)", pairs(80, 80).clash(1), 80));
        test(27, "clash: equally many: the least CELL", () -> {
            due("clash(1)", pairs(80, 4).clash(1), 4);
            due("clash(1)", pairs(0, 80).clash(40), 0);
        });
        test(27, "clash: the most, not the least CELL", () -> {
            SnailLaws x = pairs(80, 4);
            Check.add(x, SNAIL, 80, 3, 80);
            due("clash(1)", x.clash(1), 80);
        });
        test(27, "clash: those that were don't count", () -> {
            SnailLaws x = pairs(4, 4);
            x.go(1);
            due("now(1)", x.now(1), 3);
            for (int s = 0; s < 4; s++) {
                x.change(s, 2, 2);
            }
            due("clash(40)", x.clash(40), NONE);
        });
        test(27, "clash: those that other calls looked ahead to don't count", () -> {
            SnailLaws x = pairs(4, 80);
            due("clash(40)", x.clash(40), 4);
            due("reaches(7, 0)", x.reaches(7, 0), NONE);
            for (int s = 0; s < 4; s++) {
                x.change(s, 2, 2);
            }
            due("clash(40) of one LAW", x.clash(40), NONE);
            x.change(3, 2, 3);
            due("clash(40) of two LAWS at 80", x.clash(40), 80);
        });
        test(27, "clash: nothing changes", () -> unchanged(0, x -> { }, x -> x.clash(40)));
        test(27, "clash: asked again it tells the same", () -> {
            SnailLaws x = pairs(80, 4);
            for (int i = 0; i < 3; i++) {
                due("clash(2)", x.clash(2), 4);
            }
        });
    }

    /** A SLOW one comes behind 40 steps to where another LAW is in force. */
    private static void dueLastClash(int n, int want) {
        SnailLaws x = new SnailLaws();
        Check.layLongWay(x);
        Check.add(x, SLOW, 0, 1, 0);
        x.go(2);
        Check.add(x, SLOW, 72, 2, 0);
        due("of(1, 6)", x.of(1, 6), 40);
        due("clash(" + n + ")", x.clash(n), want);
    }

    /** Two SNAILS of LAWS 1 and 2 that stay at a CELL, and two at another. */
    private static SnailLaws pairs(int cell, int other) {
        SnailLaws x = new SnailLaws();
        int[] cells = {cell, cell, other, other};
        for (int s = 0; s < 4; s++) {
            Check.add(x, SNAIL, cells[s], 1 + s % 2, cells[s]);
        }
        return x;
    }

    /**
     * SNAIL 0, a GREEDY one, bears LAW 1 from 0 to 8; SNAIL 1 stays at 0 with it, where 4 of GREENS
     * last 4 DAYS, or 2 if SNAIL 1 is GREEDY, too.
     */
    private static SnailLaws grazingWith(int otherKind) {
        SnailLaws x = new SnailLaws();
        Check.add(x, GREEDY, 0, 1, 8);
        Check.add(x, otherKind, 0, 2, 0);
        x.greens(0, 4);
        return x;
    }

    /** What will be by what the other SNAILS do meanwhile. */
    private static void others() {
        test(19, "ahead: GREENS that another SNAIL eats hold it less long", () -> {
            due("ahead(0, 3)", grazingWith(GREEDY).ahead(0, 3), 2);
            due("ahead(0, 3) if it doesn't eat", grazingWith(SNAIL).ahead(0, 3), 0);
        });
        test(20, "lawAt: GREENS that another SNAIL eats hold it less long", () -> {
            due("lawAt(2, 3)", grazingWith(GREEDY).lawAt(2, 3), 1);
            due("lawAt(2, 3) if it doesn't eat", grazingWith(SNAIL).lawAt(2, 3), -1);
        });
        test(21, "reaches: GREENS that another SNAIL eats hold it less long", () -> {
            due("reaches(1, 8)", grazingWith(GREEDY).reaches(1, 8), 6);
            due("reaches(1, 8) if it doesn't eat", grazingWith(SNAIL).reaches(1, 8), 8);
        });
        test(22, "wetFor: another SNAIL that comes sooner in the wet brings it sooner", () -> {
            SnailLaws x = grazingWith(SNAIL);
            due("wetFor(2, 4)", x.wetFor(2, 4), NONE);
            x.change(1, 3, 4);
            due("wetFor(2, 4)", x.wetFor(2, 4), 5);
        });
        test(23, "comes: GREENS that another SNAIL eats hold it less long", () -> {
            due("comes(0)", grazingWith(GREEDY).comes(0), 6);
            due("comes(0) if it doesn't eat", grazingWith(SNAIL).comes(0), 8);
        });
        test(24, "kindFor: the last of GREENS that an earlier SNAIL eats doesn't hold it as a GLUTTON",
            () -> {
                due("kindFor(1)", behindEater(GREEDY).kindFor(1), 6);
                due("kindFor(1) if it doesn't eat", behindEater(SNAIL).kindFor(1), 5);
            });
        test(25, "overtakes: GREENS that a third SNAIL eats hold it less long", () -> {
            due("overtakes(0, 2)", besideSlowOne(GREEDY).overtakes(0, 2), 5);
            due("overtakes(0, 2) if it doesn't eat", besideSlowOne(SNAIL).overtakes(0, 2), NONE);
        });
        test(26, "lag: GREENS that a third SNAIL eats hold the one less long", () -> {
            due("lag(1, 0, 1)", besideSlowOne(GREEDY).lag(1, 0, 1), 3 - 1);
            due("lag(1, 0, 1) if it doesn't eat", besideSlowOne(SNAIL).lag(1, 0, 1), 5 - 1);
        });
        test(27, "clash: GREENS that a third SNAIL eats let it come to where a LAW is", () -> {
            due("clash(3)", besideSlowOne(GREEDY).clash(3), 0);
            SnailLaws x = besideSlowOne(GREEDY);
            x.change(1, 2, 1);
            x.change(2, 1, 2);
            due("clash(3) at 2 alone", x.clash(3), 2);
            x.change(1, 0, SNAIL);
            due("clash(3) if it doesn't eat", x.clash(3), NONE);
        });
    }

    /** SNAIL 1 from 0 to 8 behind another one AT 0, where there is one of GREENS. */
    private static SnailLaws behindEater(int kind) {
        SnailLaws x = new SnailLaws();
        Check.add(x, kind, 0, 2, 0);
        Check.add(x, SNAIL, 0, 1, 8);
        x.greens(0, 1);
        return x;
    }

    /** Those who graze, and SNAIL 2, a SLOW one that bears LAW 0 from 0 to 8. */
    private static SnailLaws besideSlowOne(int otherKind) {
        SnailLaws x = grazingWith(otherKind);
        Check.add(x, SLOW, 0, 0, 8);
        return x;
    }

    /** What will be has no thrushes: they come by thrushes() alone. */
    private static void noThrushes() {
        test(19, "ahead: no thrush comes, and none is drawn", () -> {
            SnailLaws x = withThrushes();
            due("ahead(0, 2)", x.ahead(0, 2), 44);
            due("count(6)", x.count(6), 1);
        });
        test(21, "reaches: no thrush brings a LAW to CELL 0",
            () -> due("reaches(3, 0)", withThrushes().reaches(3, 0), NONE));
        test(23, "comes: no thrush keeps it off", () -> due("comes(0)", withThrushes().comes(0), 2));
        test(11, "go: no thrush comes, and none is drawn", () -> {
            SnailLaws x = withThrushes();
            x.go(2);
            due("of(0, 1)", x.of(0, 1), 44);
            due("count(6)", x.count(6), 1);
        });
    }

    private static SnailLaws withThrushes() {
        SnailLaws x = new SnailLaws();
        Check.add(x, SNAIL, 40, 3, 44);
        x.set(1, 20);
        return x;
    }

    public static void main(String[] args) {
        others();
        noThrushes();
        ahead();
        lawAt();
        reaches();
        wetFor();
        comes();
        kindFor();
        overtakes();
        lag();
        clash();
        Check.end("FutureEdgesTest", 19, 27);
    }
}
