import java.util.function.Consumer;

/** Promises 15 to 18, a test for each of their edges: deeds. */
final class DeedEdgesTest extends Edges {
    /** LAW 1, which bans DEEDS 0 and 7, at CELLS 0 to 3; LAW 2, which bans DEED 1, at 80. */
    private static SnailLaws twoLaws() {
        SnailLaws x = new SnailLaws();
        Check.add(x, 5, 0, 1, 8);
        Check.add(x, 0, 80, 2, 80);
        x.bans(1, 129);
        x.bans(2, 2);
        x.go(1);
        return x;
    }

    private static void hedgeAll(SnailLaws x) {
        for (int cell = 0; cell < 81; cell++) {
            x.hedge(cell, 1);
        }
    }

    private static void may() {
        range(15, "may: CELL", 0, 80, (x, v) -> x.may(v, 0));
        range(15, "may: DEED", 0, 7, (x, v) -> x.may(0, v));
        test(15, "may: where no LAW is in force each DEED, whatever is in BANS", () -> {
            SnailLaws x = new SnailLaws();
            for (int law = 0; law < 8; law++) {
                x.bans(law, 255);
            }
            for (int deed = 0; deed < 8; deed++) {
                due("may(0, " + deed + ")", x.may(0, deed), 1);
            }
        });
        test(15, "may: the first DEED in BANS", () -> due("may(3, 0)", twoLaws().may(3, 0), 0));
        test(15, "may: the last DEED in BANS", () -> due("may(3, 7)", twoLaws().may(3, 7), 0));
        test(15, "may: a DEED that isn't in BANS", () -> due("may(3, 6)", twoLaws().may(3, 6), 1));
        test(15, "may: a DEED in BANS of another LAW", () -> due("may(80, 0)", twoLaws().may(80, 0), 1));
        test(15, "may: at a HEDGE without a LAW", () -> due("may(71, 0)", laden().may(71, 0), 1));
        test(15, "may: at a HEDGE with a LAW", () -> due("may(70, 1)", laden().may(70, 1), 0));
        test(15, "may: nothing changes", () -> unchanged(0, x -> { }, x -> x.may(1, 0)));
    }

    private static void where() {
        range(16, "where: DEED", 0, 7, (x, v) -> x.where(v));
        test(16, "where: no LAW, no HEDGE: at all CELLS", () -> due("where(0)", new SnailLaws().where(0), 81));
        test(16, "where: all CELLS are HEDGES: at none", () -> {
            SnailLaws x = new SnailLaws();
            hedgeAll(x);
            due("where(7)", x.where(7), 0);
        });
        test(16, "where: in BANS of the LAW everywhere: at none", () -> {
            SnailLaws x = lawEverywhere(0);
            x.bans(0, 128);
            due("where(7)", x.where(7), 0);
            due("where(6)", x.where(6), 81);
        });
        test(16, "where: a HEDGE at which it is LAWFUL isn't counted", () -> {
            SnailLaws x = twoLaws();
            due("where(0)", x.where(0), 77);
            x.hedge(50, 1);
            due("where(0)", x.where(0), 76);
            x.hedge(0, 1);
            due("where(0) with a HEDGE where it wasn't", x.where(0), 76);
        });
        test(16, "where: nothing changes", () -> unchanged(66, x -> { }, x -> x.where(0)));
    }

    private static void route() {
        range(17, "route: from CELL", 0, 80, (x, v) -> x.route(v, 20, 0));
        range(17, "route: to CELL", 0, 80, (x, v) -> x.route(20, v, 0));
        range(17, "route: DEED", 0, 7, (x, v) -> x.route(20, 21, v));
        test(17, "route: to itself 0", () -> due("route(0, 0, 0)", new SnailLaws().route(0, 0, 0), 0));
        test(17, "route: corner to corner 16", () -> due("route", new SnailLaws().route(0, 80, 7), 16));
        test(17, "route: the longest there is here, 48", () -> {
            SnailLaws x = new SnailLaws();
            Check.layLongWay(x);
            due("route(0, 80, 0)", x.route(0, 80, 0), 48);
        });
        test(17, "route: round where it isn't LAWFUL", () -> {
            SnailLaws x = new SnailLaws();
            Check.add(x, 5, 36, 1, 44);
            x.bans(1, 1);
            x.go(2);
            due("of DEED 1", x.route(27, 45, 1), 2);
            due("of DEED 0", x.route(27, 45, 0), 16);
        });
        dueNoRoute("from where it isn't LAWFUL", x -> { }, x -> x.route(1, 9, 0));
        dueNoRoute("to where it isn't LAWFUL", x -> { }, x -> x.route(9, 1, 0));
        dueNoRoute("from where it isn't LAWFUL to itself", x -> { }, x -> x.route(1, 1, 0));
        dueNoRoute("from a HEDGE", x -> { }, x -> x.route(71, 62, 0));
        dueNoRoute("to a HEDGE", x -> { }, x -> x.route(62, 71, 0));
        dueNoRoute("from a HEDGE to itself", x -> { }, x -> x.route(71, 71, 0));
        dueNoRoute("shut in by HEDGES", x -> {
            x.hedge(63, 1);
            x.hedge(73, 1);
        }, x -> x.route(72, 62, 0));
        dueNoRoute("shut in by where it isn't LAWFUL and the edge", x -> x.hedge(9, 1), x -> x.route(0, 18, 0));
        test(17, "route: BEYOND is asked before NONE", () -> refused(BEYOND, x -> x.route(71, 81, 0)));
        test(17, "route: nothing changes", () -> unchanged(8, x -> { }, x -> x.route(27, 35, 0)));
    }

    private static void dueNoRoute(String edge, Consumer<SnailLaws> ahead, Act act) {
        test(17, "route: NONE, " + edge + ", and nothing else changes", () -> refused(NONE, ahead, act));
    }

    private static void free() {
        test(18, "free: no LAW is in force: all DEEDS", () -> {
            SnailLaws x = new SnailLaws();
            x.bans(0, 255);
            due("free()", x.free(), 255);
        });
        test(18, "free: all CELLS are HEDGES: all DEEDS", () -> {
            SnailLaws x = twoLaws();
            hedgeAll(x);
            due("free()", x.free(), 255);
        });
        test(18, "free: all DEEDS in BANS at one CELL: none", () -> {
            SnailLaws x = twoLaws();
            x.bans(2, 255);
            due("free()", x.free(), 0);
        });
        test(18, "free: the first and the last DEED in BANS", () -> due("free()", twoLaws().free(), 255 - 129 - 2));
        test(18, "free: a LAW at the first CELL alone counts", () -> dueFree(0));
        test(18, "free: a LAW at the last CELL alone counts", () -> dueFree(80));
        test(18, "free: BANS of a LAW that is at a HEDGE alone don't count", () -> {
            SnailLaws x = twoLaws();
            x.hedge(80, 1);
            due("free()", x.free(), 255 - 129);
        });
        test(18, "free: nothing changes", () -> unchanged(92, x -> { }, x -> x.free()));
    }

    private static void dueFree(int cell) {
        SnailLaws x = new SnailLaws();
        Check.add(x, 0, cell, 3, cell);
        x.bans(3, 16);
        x.go(1);
        due("free()", x.free(), 255 - 16);
    }

    public static void main(String[] args) {
        may();
        where();
        route();
        free();
        Check.end("DeedEdgesTest", 15, 18);
    }
}
