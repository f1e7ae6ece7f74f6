/** Promises 33 to 35: thrushes. */
final class ThrushTest {
    private static SnailLaws x;

    /** From z 1 on the rests by 20 are 14, 12, 16, 3, 7, 16, 10, 6, .. */
    private static void promise33() {
        x = new SnailLaws();
        x.snail(5, 40);
        x.snail(5, 40);
        x.change(0, 3, 40);
        x.change(1, 3, 40);
        x.set(1, 13);
        Check.due("the second draw is below 13", x.thrushes(1), 1);
        Check.due("the other one stays", x.of(0, 1), 40);
        Check.due("AT 0, and then the day goes by", x.of(1, 1), 3);
        Check.due("its law comes there", x.land(0, 2), 0);
        Check.due("a day", x.now(0), 1);
        Check.due("z", x.count(6), -1770082073);
        x.set(1, 3);
        Check.due("16, 3; 7, 16; 10, 6: 3 isn't below 3", x.thrushes(3), 0);
        Check.due("it crawled on", x.of(1, 1), 40);
        x.seed(1);
        x.set(1, 10);
        Check.due("3; 7; 6, but not 10", x.thrushes(4), 3);
        Check.due("days", x.now(0), 8);
        x.set(1, 0);
        Check.due("none", x.thrushes(20), 0);
        x.set(1, 20);
        Check.due("all", x.thrushes(20), 40);
        Check.due("AT 0, and a day on", x.of(0, 1), 3);
        int[] wrong = {0, -1, 21, Check.LEAST, Check.GREATEST};
        for (int n : wrong) {
            Check.due("thrushes wrong", x.thrushes(n), Check.BEYOND);
        }
        Check.due("days stand", x.now(0), 48);
        x = new SnailLaws();
        Check.due("without snails", x.thrushes(20), 0);
        Check.due("no draws", x.count(6), 1);
        Check.due("days go by", x.count(0), 20);
    }

    private static void promise34() {
        x = new SnailLaws();
        Check.due("no day: above", x.alone(0, 0), 1);
        Check.due("no day: below", x.alone(0, 1), 1);
        Check.due("a day: above", x.alone(1, 0), 19);
        Check.due("a day: below", x.alone(1, 1), 20);
        Check.due("14 days: above", x.alone(14, 0), 799006685782884121L);
        Check.due("14 days: below", x.alone(14, 1), 1638400000000000000L);
        x.set(1, 8);
        Check.due("3 of 5: above", x.alone(3, 0), 27);
        Check.due("3 of 5: below", x.alone(3, 1), 125);
        x.set(1, 10);
        Check.due("1 of 2: above", x.alone(14, 0), 1);
        Check.due("1 of 2: below", x.alone(14, 1), 16384);
        x.set(1, 18);
        Check.due("1 of 10: below", x.alone(14, 1), 100000000000000L);
        x.set(1, 0);
        Check.due("surely: above", x.alone(14, 0), 1);
        Check.due("surely: below", x.alone(14, 1), 1);
        x.set(1, 20);
        Check.due("never: above", x.alone(14, 0), 0);
        Check.due("never: below", x.alone(14, 1), 1);
        Check.due("but for no day: above", x.alone(0, 0), 1);
        Check.due("but for no day: below", x.alone(0, 1), 1);
        int[][] wrong = {{-1, 0}, {15, 0}, {0, -1}, {0, 2}, {Check.LEAST, 0}, {Check.GREATEST, 1},
            {0, Check.LEAST}, {0, Check.GREATEST}};
        for (int[] w : wrong) {
            Check.due("alone wrong", x.alone(w[0], w[1]), Check.BEYOND);
        }
        Check.due("counted", x.status(0), wrong.length);
    }

    private static void promise35() {
        x = new SnailLaws();
        Check.due("seed", x.seed(Check.LEAST), 1);
        Check.due("seed again", x.seed(Check.GREATEST), Check.LEAST);
        Check.due("a number like a finding", x.seed(Check.BEYOND), Check.GREATEST);
        Check.due("told", x.count(6), Check.BEYOND);
        Check.due("told", x.seed(-1), Check.BEYOND);
        Check.due("no findings", x.status(-1), 0);
        x.snail(0, 0);
        x.set(1, 18);
        Check.due("z is drawn without its sign: 17 is below 18", x.thrushes(1), 1);
        Check.due("z wraps round", x.count(6), -1103502900);
        x.seed(-1);
        x.set(1, 17);
        Check.due("17 isn't below 17", x.thrushes(1), 0);
    }

    public static void main(String[] args) {
        promise33();
        promise34();
        promise35();
        Check.end("ThrushTest");
    }
}
