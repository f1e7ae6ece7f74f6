import java.util.function.Consumer;

/** Promises 46 to 50, a test for each of their edges: images. */
final class ImageEdgesTest extends Edges {
    private static void image() {
        test(46, "image: of a new object", () -> {
            SnailLaws x = new SnailLaws();
            due("image()", x.image(), 1);
            x.snail(0, 3);
            x.go(40);
            x.seed(8);
            due("undo()", x.undo(), 0);
            for (int what = 0; what < 8; what++) {
                due("count(" + what + ")", x.count(what), what == 6 ? 1 : 0);
            }
        });
        test(46, "image: of eight SNAILS", () -> {
            SnailLaws x = laden();
            fillSnails(x);
            due("image()", x.image(), 1);
            x.change(7, 1, 33);
            x.undo();
            due("of(7, 1)", x.of(7, 1), 2);
            due("snail(0, 0)", x.snail(0, 0), FULL);
        });
        test(46, "image: kept again, nothing changes",
            () -> changesAs(1, x -> x.image(), x -> x.image(), x -> x.image()));
        test(46, "image: the latest is kept", () -> {
            SnailLaws x = laden();
            x.image();
            x.go(1);
            x.image();
            x.go(1);
            due("undo()", x.undo(), 5);
        });
        test(46, "image: behind tear() it is kept again", () -> {
            SnailLaws x = laden();
            x.tear();
            due("image()", x.image(), 1);
            due("undo()", x.undo(), 4);
        });
    }

    /** What changes behind an image is as it was behind undo(). */
    private static void undone(String edge, Consumer<SnailLaws> changes) {
        test(47, "undo: takes back " + edge, () -> changesAs(4, x -> {
            x.image();
            changes.accept(x);
        }, x -> x.undo(), x -> x.image()));
    }

    /** What changes behind an image stands behind undo(), too. */
    private static void standing(String edge, Consumer<SnailLaws> changes) {
        test(47, "undo: doesn't take back " + edge, () -> {
            Consumer<SnailLaws> ahead = x -> {
                x.image();
                changes.accept(x);
            };
            changesAs(4, ahead, x -> x.undo(), ahead);
        });
    }

    private static void undo() {
        test(47, "undo: nothing is kept: NONE, and nothing else changes",
            () -> refused(NONE, x -> x.tear(), x -> x.undo()));
        test(47, "undo: nothing was ever kept: NONE", () -> due("undo()", new SnailLaws().undo(), NONE));
        test(47, "undo: nothing changed: nothing changes", () -> unchanged(4, x -> x.image(), x -> x.undo()));
        test(47, "undo: what was kept stays", () -> {
            SnailLaws x = laden();
            x.image();
            for (int i = 0; i < 3; i++) {
                x.go(1);
                due("undo()", x.undo(), 4);
            }
            due("tear()", x.tear(), 1);
        });
        test(47, "undo: FAR is by the HEDGES that were", () -> {
            SnailLaws x = laden();
            x.image();
            x.hedge(60, 1);
            due("far(51, 69)", x.far(51, 69), 4);
            x.undo();
            due("far(51, 69) again", x.far(51, 69), 2);
        });
        undone("a HEDGE at the first CELL", x -> x.hedge(0, 1));
        undone("a HEDGE at the last CELL", x -> x.hedge(80, 1));
        undone("a HEDGE that is none", x -> x.hedge(70, 0));
        undone("GREENS of the first CELL", x -> x.greens(0, 9));
        undone("GREENS of the last CELL", x -> x.greens(80, 9));
        undone("GREENS that a sheet told", x -> x.load(0));
        undone("BANS of the first LAW", x -> x.bans(0, 255));
        undone("BANS of the last LAW", x -> x.bans(7, 255));
        undone("WET", x -> x.set(0, 0));
        undone("THRUSH", x -> x.set(1, 0));
        undone("z", x -> x.seed(0));
        undone("DAYS", x -> x.go(40));
        undone("DAYS with thrushes", x -> x.thrushes(20));
        undone("that no LAW is in force", x -> x.repeals());
        undone("a new SNAIL", x -> x.snail(6, 80));
        undone("so many SNAILS that there are most", Edges::fillSnails);
        for (int w = 0; w < 5; w++) {
            int what = w;
            undone("what " + w + " of a SNAIL", x -> x.change(3, what, 5));
        }
        undone("what the first SPOT holds", x -> x.hold(0, 4));
        undone("what the last SPOT holds", x -> x.hold(9, 4));
        undone("that a SPOT holds nothing", x -> x.hold(4, -1));
        for (int w = 0; w < 5; w++) {
            int what = w;
            test(47, "undo: takes back what " + w + " of the first and of the last of eight SNAILS", () -> {
                SnailLaws x = laden();
                fillSnails(x);
                int first = x.of(0, what);
                int last = x.of(7, what);
                x.image();
                x.change(0, what, 3);
                x.change(7, what, 3);
                x.undo();
                due("of(0, " + what + ")", x.of(0, what), first);
                due("of(7, " + what + ")", x.of(7, what), last);
            });
        }
        test(47, "undo: a SNAIL that comes anew is as at first", () -> {
            SnailLaws x = laden();
            Check.add(x, 0, 0, 6, 5);
            x.change(5, 4, 9);
            x.undo();
            due("snail(0, 0)", x.snail(0, 0), 1);
            x.image();
            Check.add(x, 0, 0, 6, 5);
            x.change(2, 4, 9);
            x.undo();
            due("snail(1, 3)", x.snail(1, 3), 2);
            int[] want = {1, 3, 0, 80, 1};
            for (int what = 0; what < 5; what++) {
                due("of(2, " + what + ")", x.of(2, what), want[what]);
            }
        });
        undone("a SPOT that holds a SNAIL that wasn't", x -> {
            x.snail(0, 0);
            x.hold(4, 5);
        });
        standing("that THE TAPE is empty", x -> x.wipe());
        standing("what THE TAPE got", x -> Check.feed(x, ";wet 1"));
        standing("that a sheet is MISSING", x -> x.sheet(0, 0, 0));
        standing("a new sheet", x -> x.sheet(3, 8, 40));
        standing("a number of a sheet", x -> x.write(1, 2, 9));
        standing("numbers that were copied", x -> x.copy(0, 0, 1, 0, 3));
        standing("a finding", x -> x.go(0));
        test(47, "undo: a TEXT that was read is taken back, but THE TAPE stays empty", () -> changesAs(4, x -> {
            x.image();
            x.text();
        }, x -> x.undo(), x -> {
            x.image();
            x.wipe();
        }));
    }

    private static void tear() {
        test(48, "tear: nothing was ever kept 0", () -> due("tear()", new SnailLaws().tear(), 0));
        test(48, "tear: something was kept 1", () -> due("tear()", laden().tear(), 1));
        test(48, "tear: again 0, and nothing changes", () -> unchanged(0, x -> x.tear(), x -> x.tear()));
        test(48, "tear: of two images nothing is kept", () -> {
            SnailLaws x = laden();
            x.image();
            due("tear()", x.tear(), 1);
            due("undo()", x.undo(), NONE);
        });
        test(48, "tear: the republic stands", () -> {
            SnailLaws x = laden();
            SnailLaws twin = laden();
            x.tear();
            for (int what = 0; what < 8; what++) {
                due("count(" + what + ")", x.count(what), twin.count(what));
            }
            for (int cell = 0; cell < 81; cell++) {
                due("land(" + cell + ", 2)", x.land(cell, 2), twin.land(cell, 2));
            }
        });
    }

    private static void count() {
        range(49, "count: what", 0, 7, (x, v) -> x.count(v));
        test(49, "count: SNAILS, eight", () -> {
            SnailLaws x = laden();
            fillSnails(x);
            due("count(1)", x.count(1), 8);
            x.snail(0, 0);
            due("count(1) behind FULL", x.count(1), 8);
        });
        test(49, "count: HEDGES, the first and the last CELL", () -> {
            SnailLaws x = new SnailLaws();
            x.hedge(0, 1);
            x.hedge(80, 1);
            due("count(2)", x.count(2), 2);
        });
        test(49, "count: CELLS with a LAW, all, of LAW 0", () -> due("count(4)", lawEverywhere(0).count(4), 81));
        test(49, "count: CELLS with a LAW, none", () -> due("count(4)", new SnailLaws().count(4), 0));
        test(49, "count: bytes of THE TAPE, 120", () -> {
            SnailLaws x = new SnailLaws();
            Check.feed(x, " ".repeat(120));
            due("count(5)", x.count(5), 120);
        });
        test(49, "count: z, the least and the greatest", () -> {
            SnailLaws x = new SnailLaws();
            x.seed(LEAST);
            due("count(6)", x.count(6), LEAST);
            x.seed(GREATEST);
            due("count(6)", x.count(6), GREATEST);
        });
        test(49, "count: SPOTS that hold something, the first and the last, of SNAIL 0", () -> {
            SnailLaws x = new SnailLaws();
            x.snail(0, 0);
            x.hold(0, 0);
            x.hold(9, 0);
            due("count(7)", x.count(7), 2);
        });
        long[] wants = {4, 5, 2, 7, 22, 13, 77, 2};
        for (int w = 0; w < 8; w++) {
            int what = w;
            test(49, "count: what " + w + ", nothing changes",
                () -> unchanged(wants[what], x -> { }, x -> x.count(what)));
        }
    }

    /** A call that answers a finding is counted where that finding is, and nowhere else. */
    private static void counted(int finding, String edge, Consumer<SnailLaws> ahead, Act act) {
        test(50, "status: " + edge, () -> {
            SnailLaws x = laden();
            ahead.accept(x);
            for (int i = 1; i <= 3; i++) {
                due("the act", act.on(x), finding);
                for (int which = 0; which < 7; which++) {
                    due("status(" + which + ")", x.status(which), which == BEYOND - finding ? i : 0);
                }
                due("status(-1)", x.status(-1), i);
            }
        });
    }

    private static void status() {
        range(50, "status: which", -1, 6, (x, v) -> x.status(v));
        counted(BEYOND, "0 counts BEYOND, -1000001", x -> { }, x -> x.realm(8));
        counted(BEYOND, "0 counts BEYOND of a long", x -> { }, x -> x.alone(15, 0));
        counted(BEYOND, "0 counts BEYOND of status() itself", x -> { }, x -> x.status(7));
        counted(FULL, "1 counts FULL, -1000002", x -> fillSnails(x), x -> x.snail(0, 0));
        counted(KIND, "2 counts KIND, -1000003", x -> { }, x -> x.as(9, 1));
        counted(NONE, "3 counts NONE, -1000004", x -> { }, x -> x.comes(4));
        counted(MISSING, "5 counts MISSING, -1000006", x -> { }, x -> x.load(3));
        counted(SIZE, "6 counts SIZE, -1000007", x -> { }, x -> x.sheet(0, 8, -1));
        test(50, "status: 4, STATE, which 512 calls don't bring", () -> {
            SnailLaws x = new SnailLaws();
            for (int i = 0; i < 500; i++) {
                x.go(40);
            }
            due("status(4)", x.status(4), 0);
        });
        test(50, "status: another one is counted from then on", () -> {
            SnailLaws x = new SnailLaws();
            due("status(7)", x.status(7), BEYOND);
            due("status(-2)", x.status(-2), BEYOND);
            due("status(0)", x.status(0), 2);
            due("status(-1)", x.status(-1), 2);
        });
        test(50, "status: undo() takes none back, tear() neither", () -> {
            SnailLaws x = new SnailLaws();
            x.image();
            x.go(0);
            x.undo();
            due("status(0)", x.status(0), 1);
            x.tear();
            due("status(0)", x.status(0), 1);
            x.undo();
            due("status(3)", x.status(3), 1);
            due("status(-1)", x.status(-1), 2);
        });
        test(50, "status: an answer below 0 that is no finding isn't counted", () -> {
            SnailLaws x = new SnailLaws();
            due("text()", x.text(), -1);
            due("land(0, 2)", x.land(0, 2), -1);
            x.seed(BEYOND);
            due("seed(0)", x.seed(0), BEYOND);
            due("status(-1)", x.status(-1), 0);
        });
    }

    public static void main(String[] args) {
        image();
        undo();
        tear();
        count();
        status();
        Check.end("ImageEdgesTest", 46, 50);
    }
}
