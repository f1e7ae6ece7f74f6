/** Promises 19 to 32: what will be, releases, trails. */
final class ForecastTest {
    private static SnailLaws x;

    /** All that an act which changes nothing might have changed. */
    private static long trace() {
        long sum = x.now(0) + 3L * x.now(1) + 5L * x.now(2) + 7L * x.now(3) + 11L * x.now(4) + x.count(6);
        for (int cell = 0; cell < 81; cell++) {
            sum = sum * 31 + x.land(cell, 1) * 9 + x.land(cell, 2);
        }
        for (int s = 0; s < x.count(1); s++) {
            for (int what = 0; what < 5; what++) {
                sum = sum * 31 + x.of(s, what);
            }
        }
        return sum;
    }

    private static void promises19And20() {
        x = new SnailLaws();
        Check.add(x, 0, 0, 1, 8);
        Check.add(x, 5, 80, 2, 0);
        Check.due("ahead now", x.ahead(0, 0), 0);
        Check.due("ahead", x.ahead(0, 3), 6);
        Check.due("ahead at its gate", x.ahead(0, 100), 8);
        Check.due("ahead of the other", x.ahead(1, 2), 26);
        Check.due("law now", x.lawAt(0, 0), -1);
        Check.due("law ahead", x.lawAt(0, 1), 1);
        Check.due("law not yet", x.lawAt(3, 1), -1);
        Check.due("law then", x.lawAt(3, 2), 1);
        Check.due("law that came over it", x.lawAt(0, 6), 2);
        Check.due("law at last", x.lawAt(8, 100), 1);
        int[] wrong = {-1, 101, Check.LEAST, Check.GREATEST};
        for (int n : wrong) {
            Check.due("ahead wrong", x.ahead(0, n), Check.BEYOND);
            Check.due("lawAt wrong", x.lawAt(0, n), Check.BEYOND);
        }
        int[] wrongSnails = {-1, 2, Check.LEAST, Check.GREATEST};
        for (int s : wrongSnails) {
            Check.due("ahead wrong snail", x.ahead(s, 0), Check.BEYOND);
        }
        int[] wrongCells = {-1, 81, Check.LEAST, Check.GREATEST};
        for (int cell : wrongCells) {
            Check.due("lawAt wrong cell", x.lawAt(cell, 0), Check.BEYOND);
        }
        Check.due("nothing came", x.count(4) + x.now(0), 0);
    }

    private static void promise21() {
        x = new SnailLaws();
        Check.add(x, 0, 0, 1, 8);
        Check.add(x, 0, 2, 2, 2);
        Check.due("reaches", x.reaches(1, 0), 1);
        Check.due("reaches", x.reaches(1, 8), 4);
        Check.due("not within a day", x.reaches(1, 2), Check.NONE);
        Check.due("never", x.reaches(3, 8), Check.NONE);
        x.go(1);
        Check.due("now", x.reaches(1, 0), 0);
        x.repeals();
        x.change(0, 0, 4);
        x.change(0, 1, 0);
        x.change(0, 3, 80);
        x.set(0, 0);
        Check.due("an elder in the dry: at day 5 and each fifth on", x.reaches(1, 17), 45);
        Check.due("not on its way", x.reaches(1, 9), Check.NONE);
        int[][] wrong = {{-1, 0}, {8, 0}, {0, -1}, {0, 81}, {Check.LEAST, Check.GREATEST}};
        for (int[] w : wrong) {
            Check.due("reaches wrong", x.reaches(w[0], w[1]), Check.BEYOND);
            Check.due("wetFor wrong", x.wetFor(w[0], w[1]), Check.BEYOND);
        }
    }

    /** A way of 48 steps, so long that some come just by 100 days, or not. */
    private static void hundredDays() {
        x = new SnailLaws();
        Check.layLongWay(x);
        Check.add(x, 0, 0, 1, 80);
        x.set(0, 0);
        Check.due("way", x.far(0, 80), 48);
        Check.due("reaches in 48", x.reaches(1, 80), 48);
        Check.due("comes in 48", x.comes(0), 48);
        x.change(0, 0, 3);
        x.set(0, 5);
        Check.due("sleepy: 95 days", x.comes(0), 95);
        Check.due("and the last cell on the way", x.reaches(1, 80), 95);
        x.go(1);
        Check.due("1 went by", x.comes(0), 94);
        x.change(0, 1, 0);
        Check.due("from an odd day", x.comes(0), 96);
        x.greens(0, 9);
        x.change(0, 0, 1);
        Check.due("greedy: 9 days and 24", x.comes(0), 33);
        x = new SnailLaws();
        Check.layLongWay(x);
        Check.add(x, 4, 0, 1, 36);
        Check.add(x, 4, 0, 2, 37);
        x.set(0, 0);
        Check.due("twenty-one steps, the last on day 100", x.comes(1), Check.NONE);
        Check.due("behind 101 days its law", x.reaches(2, 37), Check.NONE);
        Check.due("nor is it nearer by then", x.overtakes(1, 0), Check.NONE);
        Check.due("twenty of them", x.comes(0), 96);
        x.go(1);
        x.change(0, 1, 0);
        x.change(1, 1, 0);
        Check.due("twenty steps by 100 days", x.comes(0), 100);
        Check.due("twenty-one aren't", x.comes(1), Check.NONE);
        Check.due("nor as any slower one", x.kindFor(1), 5);
        x.change(0, 2, 3);
        Check.due("overtakes not by then", x.overtakes(1, 0), Check.NONE);
        x.change(1, 2, 3);
        Check.due("reaches behind 100 days", x.reaches(3, 36), 100);
        Check.due("lag of 100 days", x.lag(3, 3, 36), 0);
        Check.due("not by 100 days", x.reaches(3, 37), Check.NONE);
        Check.due("not to lag", x.lag(3, 2, 37), Check.NONE);
        Check.due("where it is then", x.ahead(1, 100), 36);
        x.change(1, 1, 37);
        Check.due("there now", x.comes(1), 0);
    }

    private static void promise22() {
        x = new SnailLaws();
        Check.add(x, 0, 0, 1, 8);
        x.set(0, 3);
        Check.due("the least of the wet ones", x.wetFor(1, 8), 5);
        Check.due("the first day by any", x.wetFor(1, 1), 0);
        Check.due("by none", x.wetFor(2, 8), Check.NONE);
        Check.add(x, 0, 2, 2, 2);
        Check.due("only in the dry does it stand a night", x.wetFor(1, 1), 0);
        x.change(1, 0, 2);
        x.change(1, 1, 3);
        x.change(1, 3, 3);
        Check.due("wet stands", x.now(4), 3);
        x.go(1);
        Check.due("in force now", x.wetFor(1, 0), 0);
    }

    private static void promises23And24() {
        x = new SnailLaws();
        Check.add(x, 0, 0, 0, 80);
        Check.due("comes", x.comes(0), 8);
        Check.due("as a glutton", x.kindFor(0), 6);
        x.greens(0, 3);
        Check.due("as one that is borne", x.kindFor(0), 5);
        x.change(0, 0, 2);
        Check.due("comes slowly", x.comes(0), 16);
        Check.due("kind stands", x.of(0, 0), 2);
        x.change(0, 1, 80);
        Check.due("is there", x.comes(0), 0);
        Check.due("as any", x.kindFor(0), 0);
        x.hedge(80, 1);
        Check.due("is there at a hedge", x.comes(0), 0);
        x.change(0, 1, 79);
        Check.due("never", x.comes(0), Check.NONE);
        Check.due("as none", x.kindFor(0), Check.NONE);
        x.hedge(80, 0);
        Check.due("a cell off: as a snail", x.kindFor(0), 0);
        int[] wrong = {-1, 1, Check.LEAST, Check.GREATEST};
        for (int s : wrong) {
            Check.due("comes wrong", x.comes(s), Check.BEYOND);
            Check.due("kindFor wrong", x.kindFor(s), Check.BEYOND);
        }
    }

    private static void promise25() {
        x = new SnailLaws();
        Check.add(x, 0, 0, 0, 80);
        Check.add(x, 2, 2, 0, 8);
        Check.due("overtakes: 2 a day against 1, 2 behind", x.overtakes(0, 1), 3);
        Check.due("the other is nearer now", x.overtakes(1, 0), 0);
        x.change(1, 0, 5);
        Check.due("doesn't overtake", x.overtakes(0, 1), Check.NONE);
        x.hedge(8, 1);
        Check.due("not where none has a way", x.overtakes(0, 1), Check.NONE);
        Check.due("one and the same", x.overtakes(0, 0), Check.BEYOND);
        int[] wrong = {-1, 2, Check.LEAST, Check.GREATEST};
        for (int s : wrong) {
            Check.due("overtakes wrong", x.overtakes(s, 0), Check.BEYOND);
            Check.due("overtakes wrong", x.overtakes(0, s), Check.BEYOND);
            Check.due("overtakes wrong", x.overtakes(s, s), Check.BEYOND);
        }
    }

    private static void promise26() {
        x = new SnailLaws();
        Check.add(x, 0, 0, 1, 8);
        Check.add(x, 2, 0, 2, 8);
        Check.due("lag below 0", x.lag(1, 2, 8), 4 - 8);
        Check.due("lag", x.lag(2, 1, 8), 8 - 4);
        Check.due("of itself", x.lag(1, 1, 8), 0);
        Check.due("lag NONE", x.lag(1, 3, 8), Check.NONE);
        Check.due("lag NONE", x.lag(3, 1, 8), Check.NONE);
        Check.due("lag NONE of itself", x.lag(3, 3, 8), Check.NONE);
        int[][] wrong = {{-1, 0, 0}, {8, 0, 0}, {0, -1, 0}, {0, 8, 0}, {0, 0, -1}, {0, 0, 81},
            {Check.LEAST, 0, 0}, {0, Check.GREATEST, 0}, {0, 0, Check.LEAST}};
        for (int[] w : wrong) {
            Check.due("lag wrong", x.lag(w[0], w[1], w[2]), Check.BEYOND);
        }
    }

    private static void promise27() {
        x = new SnailLaws();
        Check.add(x, 0, 0, 1, 8);
        Check.add(x, 0, 2, 2, 8);
        Check.due("no days, no clash", x.clash(0), Check.NONE);
        Check.due("the first", x.clash(1), 2);
        Check.due("then of 2, 3 and 4 the most", x.clash(2), 2);
        Check.due("at last at the gate", x.clash(40), 8);
        x.go(1);
        Check.due("from now on: 2, 3, 4 (twice)", x.clash(1), 4);
        x.change(1, 2, 1);
        x.repeals();
        Check.due("none", x.clash(40), Check.NONE);
        int[] wrong = {-1, 41, Check.LEAST, Check.GREATEST};
        for (int n : wrong) {
            Check.due("clash wrong", x.clash(n), Check.BEYOND);
        }
        Check.due("two NONE", x.status(3), 2);
    }

    private static void promises28And29() {
        x = new SnailLaws();
        Check.add(x, 0, 0, 1, 8);
        Check.add(x, 0, 0, 1, 8);
        Check.add(x, 0, 0, 2, 8);
        x.change(0, 4, 9);
        x.change(1, 4, 7);
        Check.due("the cheaper", x.release(1, 2, 1), 2);
        Check.due("costs", x.costs(1, 2, 1), 7);
        x.change(0, 4, 7);
        Check.due("the least of equals", x.release(1, 2, 1), 1);
        Check.due("another law", x.release(2, 2, 1), 4);
        Check.due("costs", x.costs(2, 2, 1), 1);
        Check.due("too early", x.release(1, 3, 1), Check.NONE);
        Check.due("too early", x.costs(1, 3, 1), Check.NONE);
        Check.due("not now", x.release(1, 0, 0), Check.NONE);
        x.go(1);
        Check.due("in force already: none at all", x.release(2, 0, 40), 0);
        Check.due("costs nothing", x.costs(2, 0, 40), 0);
        x.change(0, 4, 0);
        x.change(1, 4, 0);
        Check.due("for nothing, the least set", x.release(1, 8, 40), 1);
        Check.due("costs nothing", x.costs(1, 8, 40), 0);
        int[][] wrong = {{-1, 0, 0}, {8, 0, 0}, {0, -1, 0}, {0, 81, 0}, {0, 0, -1}, {0, 0, 41},
            {Check.LEAST, 0, 0}, {0, Check.GREATEST, 0}, {0, 0, Check.GREATEST}};
        for (int[] w : wrong) {
            Check.due("release wrong", x.release(w[0], w[1], w[2]), Check.BEYOND);
            Check.due("costs wrong", x.costs(w[0], w[1], w[2]), Check.BEYOND);
        }
    }

    /** A greedy one is held by greens that only another greedy one eats up in time. */
    private static void releaseOfTwo() {
        x = new SnailLaws();
        Check.add(x, 1, 0, 2, 0);
        Check.add(x, 1, 0, 1, 8);
        x.greens(0, 4);
        x.change(0, 4, 5);
        x.change(1, 4, 6);
        Check.due("two together", x.release(1, 4, 4), 3);
        Check.due("cost of both", x.costs(1, 4, 4), 11);
        Check.due("alone it takes longer", x.release(1, 4, 6), 2);
        Check.due("cost of one", x.costs(1, 4, 6), 6);
        for (int s = 2; s < 8; s++) {
            Check.add(x, 5, 80, 3, 80);
            x.change(s, 4, 99);
        }
        Check.due("of all eight still the two", x.release(1, 4, 4), 3);
        Check.due("the dear ones", x.costs(3, 80, 40), 99);
        Check.due("the first of them", x.release(3, 80, 1), 4);
    }

    private static void promise30() {
        x = new SnailLaws();
        Check.add(x, 0, 40, 0, 40);
        Check.due("in no day", x.farthest(0, 0), 40);
        Check.due("two steps a day", x.farthest(0, 1), 22);
        Check.due("the least of all so far", x.farthest(0, 2), 4);
        Check.due("all the land", x.farthest(0, 40), 0);
        x.hedge(0, 1);
        x.hedge(72, 1);
        Check.due("no hedge", x.farthest(0, 40), 8);
        x.hedge(7, 1);
        x.hedge(17, 1);
        Check.due("not from where there is no way", x.farthest(0, 40), 80);
        Check.due("wherever it is", x.change(0, 1, 3), 40);
        Check.due("wherever it is", x.farthest(0, 40), 80);
        x.change(0, 0, 1);
        x.greens(80, 9);
        Check.due("greens hold it", x.farthest(0, 12), 1);
        x.hedge(40, 1);
        Check.due("the gate is a hedge", x.farthest(0, 40), Check.NONE);
        int[][] wrong = {{-1, 0}, {1, 0}, {0, -1}, {0, 41}, {Check.LEAST, 0}, {0, Check.GREATEST}};
        for (int[] w : wrong) {
            Check.due("farthest wrong", x.farthest(w[0], w[1]), Check.BEYOND);
        }
    }

    private static void promises31And32() {
        x = new SnailLaws();
        Check.due("fits no such sheet first", x.fits(4, 0), Check.BEYOND);
        Check.due("fits MISSING before the snail", x.fits(0, 0), Check.MISSING);
        Check.due("began MISSING before the snail", x.began(0, 9), Check.MISSING);
        x.sheet(0, 8, 0);
        Check.due("fits no such snail", x.fits(0, 0), Check.BEYOND);
        Check.due("began no such snail", x.began(0, -1), Check.BEYOND);
        Check.add(x, 0, 40, 0, 8);
        Check.due("an empty sheet: anywhere", x.fits(0, 0), 81);
        Check.due("the least", x.began(0, 0), 0);
        x.sheet(0, 8, 3);
        x.write(0, 0, -1);
        x.write(0, 1, -1);
        x.write(0, 2, 8);
        Check.due("at its gate behind two days", x.fits(0, 0), 15);
        Check.due("the least of them", x.began(0, 0), 4);
        x.write(0, 1, 6);
        Check.due("by 6", x.fits(0, 0), 3);
        Check.due("the least by 6: above is first", x.began(0, 0), 4);
        x.write(0, 0, 14);
        Check.due("from 14", x.fits(0, 0), 1);
        Check.due("it began there", x.began(0, 0), 14);
        x.write(0, 0, 13);
        Check.due("from 13 it comes by 5", x.fits(0, 0), 0);
        Check.due("it began nowhere", x.began(0, 0), Check.NONE);
        x.write(0, 0, 100);
        Check.due("no such cell", x.began(0, 0), Check.NONE);
        x.sheet(1, 16, 2);
        x.hedge(50, 1);
        x.write(1, 0, 50);
        x.write(1, 1, 50);
        Check.due("at a hedge, where it stays", x.began(1, 0), 50);
        x.write(1, 0, 255);
        Check.due("255 of 16 bits is no cell", x.fits(1, 0), 0);
        int[] wrong = {-1, 4, Check.LEAST, Check.GREATEST};
        for (int s : wrong) {
            Check.due("fits wrong sheet", x.fits(s, 0), Check.BEYOND);
            Check.due("began wrong sheet", x.began(s, 0), Check.BEYOND);
        }
        Check.due("fits MISSING", x.fits(3, 0), Check.MISSING);
        Check.due("fits wrong snail", x.fits(1, Check.GREATEST), Check.BEYOND);
        Check.due("began wrong snail", x.began(1, Check.LEAST), Check.BEYOND);
    }

    /** No forecast leaves anything behind. */
    private static void nothingChanges() {
        x = new SnailLaws();
        for (int s = 0; s < 8; s++) {
            Check.add(x, s % 7, 10 * s, s % 3, 80 - 7 * s);
            x.greens(10 * s, s);
        }
        x.go(2);
        x.sheet(0, 8, 4);
        x.write(0, 0, -1);
        x.write(0, 1, -1);
        x.write(0, 2, -1);
        x.write(0, 3, -1);
        long was = trace();
        int[] calls = {x.ahead(1, 100), x.lawAt(5, 100), x.reaches(2, 5), x.wetFor(2, 5), x.comes(3),
            x.kindFor(3), x.overtakes(1, 2), x.lag(1, 2, 5), x.clash(40), x.release(1, 5, 40),
            x.costs(1, 5, 40), x.farthest(1, 40), x.fits(0, 1), x.began(0, 1)};
        Check.due("nothing changed by " + calls.length, trace(), was);
        Check.due("fits anywhere", x.fits(0, 1), 81);
    }

    public static void main(String[] args) {
        promises19And20();
        promise21();
        hundredDays();
        promise22();
        promises23And24();
        promise25();
        promise26();
        promise27();
        promises28And29();
        releaseOfTwo();
        promise30();
        promises31And32();
        nothingChanges();
        Check.end("ForecastTest");
    }
}
