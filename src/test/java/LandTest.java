/** Promises 1 to 10: the land, snails, laws. */
final class LandTest {
    private static SnailLaws x;

    private static void promise1() {
        x = new SnailLaws();
        long[] counts = {0, 0, 0, 0, 0, 0, 1, 0};
        for (int what = 0; what < 8; what++) {
            Check.due("new count " + what, x.count(what), counts[what]);
        }
        long[] nows = {0, 0, 0, 0, 5, 0};
        for (int what = 0; what < 6; what++) {
            Check.due("new now " + what, x.now(what), nows[what]);
        }
        for (int cell = 0; cell < 81; cell++) {
            Check.due("new hedge", x.land(cell, 0), 0);
            Check.due("new greens", x.land(cell, 1), 0);
            Check.due("new law", x.land(cell, 2), -1);
        }
        for (int law = 0; law < 8; law++) {
            Check.due("new bans", x.bans(law, 0), 0);
        }
        Check.due("new status", x.status(-1), 0);
        Check.due("new wet", x.set(0, 5), 5);
        Check.due("new thrush", x.set(1, 1), 1);
        Check.due("new tape", x.wipe(), 0);
        Check.due("new image", x.tear(), 0);
        Check.due("new spot", x.as(0, 0), Check.MISSING);
        Check.due("new sheet", x.judge(3), Check.MISSING);
        Check.due("new snails", x.of(0, 0), Check.BEYOND);
        Check.due("new snails", x.snail(0, 0), 0);
        x.snail(0, 0);
        Check.due("another is its own", new SnailLaws().count(1), 0);
    }

    private static void promise2() {
        x = new SnailLaws();
        Check.due("hedge new", x.hedge(80, 1), 1);
        Check.due("hedge again", x.hedge(80, 1), 0);
        Check.due("hedge told", x.land(80, 0), 1);
        Check.due("hedge counted", x.count(2), 1);
        Check.due("no hedge", x.hedge(80, 0), 1);
        Check.due("no hedge again", x.hedge(80, 0), 0);
        Check.due("first cell", x.hedge(0, 1), 1);
        int[][] wrong = {{-1, 0}, {81, 1}, {0, -1}, {0, 2}, {Check.LEAST, 0}, {Check.GREATEST, 1},
            {0, Check.LEAST}, {0, Check.GREATEST}};
        for (int[] w : wrong) {
            Check.due("hedge wrong", x.hedge(w[0], w[1]), Check.BEYOND);
        }
        Check.due("hedges stand", x.count(2), 1);
        Check.due("wrong ones counted", x.status(0), wrong.length);
    }

    private static void promise3() {
        x = new SnailLaws();
        Check.due("greens", x.greens(0, 9), 0);
        Check.due("greens again", x.greens(0, 3), 9);
        Check.due("greens last", x.greens(80, 1), 0);
        Check.due("greens of all", x.now(3), 4);
        int[][] wrong = {{-1, 0}, {81, 0}, {0, -1}, {0, 10}, {Check.LEAST, 0}, {Check.GREATEST, 0},
            {0, Check.LEAST}, {0, Check.GREATEST}};
        for (int[] w : wrong) {
            Check.due("greens wrong", x.greens(w[0], w[1]), Check.BEYOND);
        }
        Check.due("greens stand", x.land(0, 1), 3);
    }

    private static void promise4() {
        x = new SnailLaws();
        x.hedge(7, 1);
        x.greens(7, 6);
        x.snail(0, 7);
        x.change(0, 2, 5);
        x.go(1);
        Check.due("land hedge", x.land(7, 0), 1);
        Check.due("land greens", x.land(7, 1), 6);
        Check.due("land law, of a hedge too", x.land(7, 2), 5);
        int[][] wrong = {{-1, 0}, {81, 2}, {0, -1}, {0, 3}, {Check.LEAST, 0}, {Check.GREATEST, 0},
            {0, Check.LEAST}, {0, Check.GREATEST}};
        for (int[] w : wrong) {
            Check.due("land wrong", x.land(w[0], w[1]), Check.BEYOND);
        }
    }

    private static void promise5() {
        x = new SnailLaws();
        Check.due("far itself", x.far(40, 40), 0);
        Check.due("far corners", x.far(0, 80), 16);
        Check.due("no way round the edge", x.far(8, 9), 9);
        x.hedge(1, 1);
        Check.due("round a hedge", x.far(0, 2), 4);
        Check.due("round a hedge back", x.far(2, 0), 4);
        Check.due("from a hedge", x.far(1, 2), 99);
        Check.due("to a hedge", x.far(2, 1), 99);
        Check.due("a hedge itself", x.far(1, 1), 99);
        x.hedge(9, 1);
        Check.due("shut in", x.far(0, 80), 99);
        Check.due("shut in, itself", x.far(0, 0), 0);
        for (int row = 1; row < 9; row += 2) {
            for (int column = 0; column < 9; column++) {
                x.hedge(row * 9 + column, column == (row % 4 == 1 ? 8 : 0) ? 0 : 1);
            }
        }
        x.hedge(1, 0);
        Check.due("the longest way", x.far(0, 80), 48);
        int[][] wrong = {{-1, 0}, {81, 0}, {0, -1}, {0, 81}, {Check.LEAST, Check.GREATEST}};
        for (int[] w : wrong) {
            Check.due("far wrong", x.far(w[0], w[1]), Check.BEYOND);
        }
    }

    private static void promise6() {
        x = new SnailLaws();
        Check.due("snail wrong kind", x.snail(-1, 0), Check.BEYOND);
        Check.due("snail wrong kind", x.snail(7, 0), Check.BEYOND);
        Check.due("snail wrong cell", x.snail(0, -1), Check.BEYOND);
        Check.due("snail wrong cell", x.snail(0, 81), Check.BEYOND);
        for (int s = 0; s < 8; s++) {
            Check.due("snail", x.snail(s % 7, 80 - s), s);
        }
        Check.due("of what kind", x.of(6, 0), 6);
        Check.due("at", x.of(6, 1), 74);
        Check.due("first law", x.of(6, 2), 0);
        Check.due("first gate", x.of(6, 3), 80);
        Check.due("first price", x.of(6, 4), 1);
        Check.due("a ninth", x.snail(0, 0), Check.FULL);
        Check.due("BEYOND is asked first", x.snail(7, 0), Check.BEYOND);
        Check.due("BEYOND is asked first", x.snail(Check.LEAST, Check.GREATEST), Check.BEYOND);
        Check.due("eight", x.count(1), 8);
        Check.due("FULL counted", x.status(1), 1);
        Check.due("no law where one only is put", x.count(4), 0);
    }

    /** MOVES of each kind: rows by WET and DAY, with and without greens. */
    private static void promise7() {
        long[][] dry = {{1, 1, 0, 0, 1, 3, 2}, {1, 1, 0, 0, 0, 3, 2}};
        long[][] damp = {{2, 2, 1, 1, 2, 3, 4}, {2, 2, 1, 0, 0, 3, 4}, {2, 2, 1, 1, 1, 3, 4},
            {2, 2, 1, 0, 0, 3, 4}, {2, 2, 1, 1, 1, 3, 4}, {2, 2, 1, 0, 1, 3, 4}};
        x = new SnailLaws();
        for (int kind = 0; kind < 7; kind++) {
            x.snail(kind, 80);
        }
        for (int day = 0; day < 6; day++) {
            for (int kind = 0; kind < 7; kind++) {
                Check.due("moves day " + day + " kind " + kind, x.of(kind, 5), damp[day][kind]);
            }
            if (day < 2) {
                for (int wet = 0; wet < 10; wet++) {
                    x.set(0, wet);
                    int kind = wet % 7;
                    Check.due("moves wet " + wet, x.of(kind, 5), (wet < 5 ? dry : damp)[day][kind]);
                }
                x.set(0, 9);
            }
            x.go(1);
        }
        x.go(4);
        Check.due("elder at day 10", x.of(4, 5), 2);
        x.greens(80, 1);
        long[] grazing = {2, 0, 1, 1, 2, 3, 0};
        for (int kind = 0; kind < 7; kind++) {
            Check.due("moves with greens " + kind, x.of(kind, 5), grazing[kind]);
        }
        Check.due("far from its gate", x.of(0, 6), 0);
        x.change(0, 3, 0);
        Check.due("far from its gate", x.of(0, 6), 16);
        x.hedge(0, 1);
        Check.due("far from a hedge", x.of(0, 6), 99);
        int[][] wrong = {{-1, 0}, {7, 0}, {0, -1}, {0, 7}, {Check.LEAST, 0}, {Check.GREATEST, 0},
            {0, Check.LEAST}, {0, Check.GREATEST}};
        for (int[] w : wrong) {
            Check.due("of wrong", x.of(w[0], w[1]), Check.BEYOND);
        }
    }

    private static void promise8() {
        x = new SnailLaws();
        x.snail(3, 40);
        int[] were = {3, 40, 0, 80, 1};
        int[] mosts = {6, 80, 7, 80, 99};
        for (int what = 0; what < 5; what++) {
            Check.due("change below", x.change(0, what, -1), Check.BEYOND);
            Check.due("change above", x.change(0, what, mosts[what] + 1), Check.BEYOND);
            Check.due("change least", x.change(0, what, Check.LEAST), Check.BEYOND);
            Check.due("change greatest", x.change(0, what, Check.GREATEST), Check.BEYOND);
            Check.due("change", x.change(0, what, mosts[what]), were[what]);
            Check.due("changed", x.of(0, what), mosts[what]);
            Check.due("change to the first", x.change(0, what, 0), mosts[what]);
            Check.due("changed to the first", x.of(0, what), 0);
        }
        Check.due("change wrong what", x.change(0, 5, 0), Check.BEYOND);
        Check.due("change wrong what", x.change(0, -1, 0), Check.BEYOND);
        Check.due("change wrong what", x.change(0, Check.GREATEST, 0), Check.BEYOND);
        Check.due("change wrong snail", x.change(1, 0, 0), Check.BEYOND);
        Check.due("change wrong snail", x.change(-1, 0, 0), Check.BEYOND);
        Check.due("change wrong snail", x.change(Check.LEAST, 0, 0), Check.BEYOND);
        Check.due("no law comes by it", x.count(4), 0);
    }

    private static void promise9() {
        x = new SnailLaws();
        Check.due("bans", x.bans(7, 255), 0);
        Check.due("bans again", x.bans(7, 3), 255);
        Check.due("bans of each", x.bans(0, 1), 0);
        int[][] wrong = {{-1, 0}, {8, 0}, {0, -1}, {0, 256}, {Check.LEAST, 0}, {Check.GREATEST, 0},
            {0, Check.LEAST}, {0, Check.GREATEST}};
        for (int[] w : wrong) {
            Check.due("bans wrong", x.bans(w[0], w[1]), Check.BEYOND);
        }
        Check.due("bans stand", x.bans(7, 0), 3);
    }

    private static void promise10() {
        x = new SnailLaws();
        Check.due("wet", x.set(0, 9), 5);
        Check.due("wet", x.set(0, 0), 9);
        Check.due("thrush", x.set(1, 20), 1);
        Check.due("thrush", x.set(1, 0), 20);
        int[][] wrong = {{0, -1}, {0, 10}, {1, -1}, {1, 21}, {2, 0}, {-1, 0}, {Check.LEAST, 0},
            {Check.GREATEST, 0}, {0, Check.LEAST}, {1, Check.GREATEST}};
        for (int[] w : wrong) {
            Check.due("set wrong", x.set(w[0], w[1]), Check.BEYOND);
        }
        Check.due("wet stands", x.now(4), 0);
        Check.due("thrush stands", x.set(1, 1), 0);
    }

    public static void main(String[] args) {
        promise1();
        promise2();
        promise3();
        promise4();
        promise5();
        promise6();
        promise7();
        promise8();
        promise9();
        promise10();
        Check.end("LandTest");
    }
}
