/** Promises 46 to 50: images. */
final class ImageTest {
    private static SnailLaws x;

    private static void promises46To48() {
        x = new SnailLaws();
        Check.due("nothing is kept", x.undo(), Check.NONE);
        Check.due("nothing to tear", x.tear(), 0);
        x.snail(3, 5);
        x.hold(2, 0);
        x.go(3);
        x.hedge(9, 1);
        x.greens(9, 4);
        x.bans(0, 9);
        x.set(0, 3);
        x.set(1, 7);
        x.seed(77);
        Check.due("image", x.image(), 1);
        long[] were = state();
        x.snail(1, 6);
        for (int what = 0; what < 5; what++) {
            x.change(0, what, 6);
        }
        x.hold(3, 1);
        x.hold(2, -1);
        x.thrushes(3);
        x.hedge(9, 0);
        x.hedge(10, 1);
        x.greens(9, 1);
        x.bans(0, 8);
        x.set(0, 9);
        x.set(1, 9);
        x.feed('w', 1);
        x.sheet(1, 8, 5);
        x.go(7);
        Check.due("undo", x.undo(), 3);
        dueState("undone", were);
        Check.due("not the tape", x.count(5), 1);
        Check.due("not the sheets", x.load(1), 5);
        Check.due("findings stand", x.status(-1), 1);
        x.undo();
        x.go(1);
        Check.due("the image stays", x.undo(), 3);
        x.go(2);
        x.image();
        x.go(2);
        Check.due("the latest", x.undo(), 5);
        Check.due("tear", x.tear(), 1);
        Check.due("tear again", x.tear(), 0);
        Check.due("nothing is kept", x.undo(), Check.NONE);
        Check.due("day stands", x.now(0), 5);
    }

    private static long[] state() {
        long[] all = new long[30 + 81 * 2];
        int n = 0;
        int[] counts = {0, 1, 2, 3, 4, 6, 7};
        for (int what : counts) {
            all[n++] = x.count(what);
        }
        for (int what = 0; what < 6; what++) {
            all[n++] = x.now(what);
        }
        for (int what = 0; what < 7; what++) {
            all[n++] = x.of(0, what);
        }
        all[n++] = x.alone(1, 0);
        all[n++] = x.free();
        all[n++] = x.as(2, 2);
        all[n++] = x.land(9, 0);
        all[n++] = x.land(10, 0);
        for (int cell = 0; cell < 81; cell++) {
            all[n++] = x.land(cell, 1);
            all[n++] = x.land(cell, 2);
        }
        return all;
    }

    private static void dueState(String when, long[] were) {
        long[] are = state();
        for (int i = 0; i < were.length; i++) {
            Check.due(when + " " + i, are[i], were[i]);
        }
    }

    /** FAR is by the HEDGES that stand now, also behind undo(). */
    private static void waysBehindUndo() {
        x = new SnailLaws();
        x.snail(0, 0);
        x.image();
        x.hedge(1, 1);
        Check.due("round it", x.far(0, 2), 4);
        Check.due("below", x.ahead(0, 1), 10);
        x.undo();
        Check.due("straight on", x.far(0, 2), 2);
        Check.due("right", x.ahead(0, 1), 2);
    }

    private static void promise49() {
        x = new SnailLaws();
        x.snail(0, 0);
        x.snail(0, 1);
        x.change(1, 2, 1);
        x.change(0, 3, 0);
        x.change(1, 3, 0);
        x.hold(0, 0);
        x.hold(9, 0);
        x.hedge(3, 1);
        x.hedge(4, 1);
        x.hedge(5, 1);
        x.feed(0, 4);
        x.seed(Check.LEAST);
        x.go(2);
        long[] due = {2, 2, 3, 3, 2, 4, Check.LEAST, 2};
        for (int what = 0; what < 8; what++) {
            Check.due("count " + what, x.count(what), due[what]);
        }
        int[] wrong = {-1, 8, Check.LEAST, Check.GREATEST};
        for (int what : wrong) {
            Check.due("count wrong", x.count(what), Check.BEYOND);
        }
    }

    private static void promise50() {
        x = new SnailLaws();
        x.go(0);
        x.go(0);
        x.snail(0, 0);
        for (int s = 1; s < 8; s++) {
            x.snail(0, 0);
        }
        x.snail(0, 0);
        x.hold(0, 0);
        x.as(0, 1);
        x.reaches(3, 3);
        x.reaches(3, 3);
        x.reaches(3, 3);
        x.judge(0);
        x.judge(0);
        x.sheet(0, 8, -1);
        x.alone(15, 0);
        long[] due = {3, 1, 1, 3, 0, 2, 1};
        for (int which = 0; which < 7; which++) {
            Check.due("status " + which, x.status(which), due[which]);
        }
        Check.due("all", x.status(-1), 11);
        Check.due("another", x.status(7), Check.BEYOND);
        Check.due("another", x.status(-2), Check.BEYOND);
        Check.due("another", x.status(Check.LEAST), Check.BEYOND);
        Check.due("another", x.status(Check.GREATEST), Check.BEYOND);
        Check.due("counted from then on", x.status(0), 7);
        Check.due("all", x.status(-1), 15);
        x.image();
        x.undo();
        Check.due("undo takes none back", x.status(-1), 15);
        Check.read(x, "snail at 99");
        Check.due("a FAULT is no finding", x.status(-1), 15);
    }

    public static void main(String[] args) {
        promises46To48();
        waysBehindUndo();
        promise49();
        promise50();
        Check.end("ImageTest");
    }
}
