/** Promises 11 to 18: days, and deeds. */
final class DaysTest {
    private static SnailLaws x;

    private static void dueLaws(String when, int[] cells, int law) {
        for (int cell : cells) {
            Check.due(when + " at " + cell, x.land(cell, 2), law);
        }
    }

    /** First BESIDE it by above, right, below, left; each CELL on the way comes under the LAW. */
    private static void promise11Moves() {
        x = new SnailLaws();
        Check.add(x, 5, 40, 1, 0);
        Check.due("go", x.go(1), 0);
        Check.due("above first", x.of(0, 1), 13);
        dueLaws("the way", new int[] {40, 31, 22, 13}, 1);
        Check.due("no other", x.count(4), 4);
        x.change(0, 3, 80);
        x.change(0, 1, 40);
        x.go(1);
        Check.due("right before below", x.of(0, 1), 43);
        x.change(0, 3, 72);
        x.change(0, 1, 40);
        x.go(1);
        Check.due("below before left", x.of(0, 1), 67);
        x.change(0, 3, 37);
        x.change(0, 1, 40);
        x.go(40);
        Check.due("left", x.of(0, 1), 37);
        Check.due("days", x.now(0), 43);
    }

    private static void promise11Stays() {
        x = new SnailLaws();
        Check.add(x, 0, 0, 1, 80);
        Check.add(x, 0, 10, 2, 80);
        x.hedge(0, 1);
        x.hedge(1, 1);
        x.hedge(9, 1);
        x.hedge(11, 1);
        x.hedge(19, 1);
        x.go(3);
        Check.due("stays at a hedge", x.of(0, 1), 0);
        Check.due("which comes under its law", x.land(0, 2), 1);
        Check.due("stays without a way", x.of(1, 1), 10);
        Check.due("cells", x.count(4), 2);
        x.hedge(1, 0);
        x.go(1);
        Check.due("stays at a hedge with a way beside it", x.of(0, 1), 0);
        Check.due("goes by the way", x.of(1, 1), 2);
        x.hedge(80, 1);
        x.go(1);
        Check.due("stays, if its gate is a hedge", x.of(1, 1), 2);
    }

    private static void promise11Clashes() {
        x = new SnailLaws();
        Check.add(x, 0, 0, 1, 8);
        Check.add(x, 0, 2, 2, 8);
        Check.due("the second comes where the first went", x.go(1), 1);
        Check.due("the later one is in force", x.land(2, 2), 2);
        Check.due("behind it the first", x.land(1, 2), 1);
        Check.due("three by the first and one by the second more", x.go(1), 5);
        x = new SnailLaws();
        Check.add(x, 0, 4, 3, 4);
        Check.add(x, 0, 4, 3, 4);
        Check.due("the same law is no clash", x.go(5), 0);
        x.change(1, 2, 4);
        Check.due("1 and then 2 a day", x.go(2), 3);
    }

    private static void promise11Greens() {
        x = new SnailLaws();
        Check.add(x, 1, 0, 0, 80);
        x.greens(0, 2);
        x.go(1);
        Check.due("stays to eat", x.of(0, 1), 0);
        Check.due("ate one", x.land(0, 1), 1);
        x.go(1);
        Check.due("stays to eat the last", x.of(0, 1), 0);
        x.greens(1, 5);
        x.greens(2, 5);
        x.go(1);
        Check.due("moves are by its cell ahead of them", x.of(0, 1), 2);
        Check.due("eats where it comes", x.land(2, 1), 4);
        Check.due("not on the way", x.land(1, 1), 5);
        x.change(0, 0, 6);
        x.go(1);
        Check.due("a glutton eats", x.land(2, 1), 3);
        x.greens(2, 0);
        x.go(1);
        Check.due("a glutton is twice as quick", x.of(0, 1), 6);
        for (int kind = 0; kind < 6; kind++) {
            x.change(0, 0, kind);
            x.change(0, 1, 80);
            x.greens(80, 9);
            x.go(1);
            Check.due("eats as kind " + kind, x.land(80, 1), kind == 1 ? 8 : 9);
        }
    }

    private static void promise11Edges() {
        x = new SnailLaws();
        int[] wrong = {0, -1, 41, Check.LEAST, Check.GREATEST};
        for (int n : wrong) {
            Check.due("go wrong", x.go(n), Check.BEYOND);
        }
        Check.due("no day went by", x.now(0), 0);
        for (int s = 0; s < 8; s++) {
            Check.add(x, 0, 80, s % 2, 80);
        }
        Check.due("eight clashes a day, seven on the first", x.go(40), 319);
        for (int i = 2; i < 313; i++) {
            x.go(40);
        }
        Check.due("near the most", x.now(1), 312 * 320 - 1);
        Check.due("most clashes", x.go(40), 99999);
        Check.due("most clashes still", x.go(40), 99999);
        Check.due("days go on", x.now(0), 314 * 40);
        Check.due("where they will be", x.clash(1), 80);
        Check.due("no STATE", x.status(4), 0);
    }

    private static void promise12() {
        x = new SnailLaws();
        x.set(0, 0);
        Check.add(x, 0, 0, 1, 0);
        Check.add(x, 0, 9, 2, 80);
        Check.add(x, 0, 72, 3, 72);
        x.hedge(72, 1);
        x.greens(5, 9);
        x.greens(6, 4);
        x.go(1);
        long[] due = {1, 0, 4, 13, 0, 5};
        for (int what = 0; what < 6; what++) {
            Check.due("now " + what, x.now(what), due[what]);
        }
        x.change(2, 2, 4);
        x.go(1);
        Check.due("now clashes", x.now(1), 1);
        int[] wrong = {-1, 6, Check.LEAST, Check.GREATEST};
        for (int what : wrong) {
            Check.due("now wrong", x.now(what), Check.BEYOND);
        }
    }

    private static void promises13And14() {
        x = new SnailLaws();
        Check.add(x, 5, 0, 7, 8);
        Check.add(x, 0, 80, 0, 80);
        x.go(1);
        Check.due("realm", x.realm(7), 4);
        Check.due("realm of the first", x.realm(0), 1);
        Check.due("realm of none", x.realm(3), 0);
        int[] wrong = {-1, 8, Check.LEAST, Check.GREATEST};
        for (int law : wrong) {
            Check.due("realm wrong", x.realm(law), Check.BEYOND);
        }
        Check.due("repeals", x.repeals(), 5);
        Check.due("repeals again", x.repeals(), 0);
        Check.due("no law", x.land(0, 2), -1);
        Check.due("no realm", x.realm(7), 0);
        Check.due("no clash by them", x.go(1), 0);
    }

    /** LAW 1 at CELLS 0 to 3, which bans 0 and 7; LAW 2 at 80, which bans 1. */
    private static void layLaws() {
        x = new SnailLaws();
        Check.add(x, 5, 0, 1, 8);
        Check.add(x, 0, 80, 2, 80);
        x.bans(1, 129);
        x.bans(2, 2);
        x.go(1);
    }

    private static void promises15And16() {
        layLaws();
        Check.due("may not", x.may(3, 0), 0);
        Check.due("may not", x.may(3, 7), 0);
        Check.due("may", x.may(3, 1), 1);
        Check.due("may without a law", x.may(4, 0), 1);
        Check.due("may not by another law", x.may(80, 1), 0);
        Check.due("where", x.where(0), 77);
        Check.due("where", x.where(1), 80);
        Check.due("where", x.where(2), 81);
        x.hedge(0, 1);
        x.hedge(50, 1);
        Check.due("may at a hedge too", x.may(50, 0), 1);
        Check.due("where, but for hedges", x.where(0), 76);
        int[][] wrong = {{-1, 0}, {81, 0}, {0, -1}, {0, 8}, {Check.LEAST, 0}, {Check.GREATEST, 0},
            {0, Check.LEAST}, {0, Check.GREATEST}};
        for (int[] w : wrong) {
            Check.due("may wrong", x.may(w[0], w[1]), Check.BEYOND);
        }
        int[] wrongDeeds = {-1, 8, Check.LEAST, Check.GREATEST};
        for (int deed : wrongDeeds) {
            Check.due("where wrong", x.where(deed), Check.BEYOND);
        }
    }

    private static void promises17And18() {
        layLaws();
        Check.due("free", x.free(), 255 - 129 - 2);
        Check.due("route", x.route(9, 13, 0), 4);
        Check.due("route lawful all along", x.route(0, 3, 1), 3);
        Check.due("route from where it isn't", x.route(0, 9, 0), Check.NONE);
        Check.due("route to where it isn't", x.route(9, 0, 0), Check.NONE);
        Check.due("route within where it isn't", x.route(1, 1, 0), Check.NONE);
        Check.due("route to itself", x.route(9, 9, 0), 0);
        x.hedge(12, 1);
        Check.due("route round a hedge", x.route(9, 13, 0), 6);
        Check.due("route over what is lawful", x.route(11, 13, 1), 4);
        Check.due("route from a hedge", x.route(12, 13, 1), Check.NONE);
        Check.due("route to a hedge", x.route(13, 12, 1), Check.NONE);
        Check.due("route BEYOND first", x.route(0, 81, 0), Check.BEYOND);
        int[][] wrong = {{-1, 0, 0}, {81, 0, 0}, {0, -1, 0}, {0, 0, -1}, {0, 0, 8},
            {Check.LEAST, 0, 0}, {0, Check.GREATEST, 0}, {0, 0, Check.GREATEST}};
        for (int[] w : wrong) {
            Check.due("route wrong", x.route(w[0], w[1], w[2]), Check.BEYOND);
        }
        x.hedge(80, 1);
        Check.due("free, but for hedges", x.free(), 255 - 129);
        for (int cell = 0; cell < 81; cell++) {
            x.hedge(cell, 1);
        }
        Check.due("free where all are hedges", x.free(), 255);
        Check.due("nowhere", x.where(0), 0);
    }

    public static void main(String[] args) {
        promise11Moves();
        promise11Stays();
        promise11Clashes();
        promise11Greens();
        promise11Edges();
        promise12();
        promises13And14();
        promises15And16();
        promises17And18();
        Check.end("DaysTest");
    }
}
