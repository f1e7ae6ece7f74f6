/** Promises 36 to 38: texts. */
final class TextTest {
    private static SnailLaws x;

    private static void promises36And37() {
        x = new SnailLaws();
        Check.due("feed 1", x.feed(0x12345678, 1), 1);
        Check.due("feed 4", x.feed(-1, 4), 5);
        Check.due("count", x.count(5), 5);
        int[] wrong = {0, 5, -1, Check.LEAST, Check.GREATEST};
        for (int n : wrong) {
            Check.due("feed wrong", x.feed(1, n), Check.BEYOND);
        }
        Check.due("wipe", x.wipe(), 5);
        Check.due("wipe again", x.wipe(), 0);
        for (int i = 1; i <= 29; i++) {
            Check.due("feed more", x.feed(0x20202020, 4), 4 * i);
        }
        Check.due("feed up to 119", x.feed(0, 3), 119);
        Check.due("FULL", x.feed(0, 2), Check.FULL);
        Check.due("BEYOND first", x.feed(0, 5), Check.BEYOND);
        Check.due("the last", x.feed(0, 1), 120);
        Check.due("FULL", x.feed(0, 1), Check.FULL);
        Check.due("FULL", x.feed(Check.GREATEST, 4), Check.FULL);
        Check.due("nothing came", x.wipe(), 120);
        x.feed('w', 1);
        x.feed(0x7F006574, 2);
        x.feed(0x00203720, 3);
        Check.due("the highest first", x.text(), 1);
        Check.due("wet 7", x.now(4), 7);
        Check.due("the tape is empty", x.count(5), 0);
    }

    private static void due(String text, int want) {
        Check.due("'" + text + "'", Check.read(x, text), want);
        Check.due("'" + text + "' leaves no tape", x.count(5), 0);
    }

    private static void dueSnail(int s, int kind, int at, int law, int gate, int price) {
        int[] want = {kind, at, law, gate, price};
        for (int what = 0; what < 5; what++) {
            Check.due("snail " + s + " " + what, x.of(s, what), want[what]);
        }
    }

    private static void goodTexts() {
        x = new SnailLaws();
        due("snail; greedy at 3 ;slow law 7;sleepy gate 0", 4);
        due("elder price 99;borne at80 law0 gate00 price000", 2);
        due("  glutton  at  0080  price  0  ", 1);
        dueSnail(0, 0, 0, 0, 80, 1);
        dueSnail(1, 1, 3, 0, 80, 1);
        dueSnail(2, 2, 0, 7, 80, 1);
        dueSnail(3, 3, 0, 0, 0, 1);
        dueSnail(4, 4, 0, 0, 80, 99);
        dueSnail(5, 5, 80, 0, 0, 0);
        dueSnail(6, 6, 80, 0, 80, 0);
        due("hedge 80;hedge 0;hedge80;greens 5 9;greens 5 8;greens80 0", 6);
        Check.due("hedges", x.count(2), 2);
        Check.due("the later greens", x.land(5, 1), 8);
        due("bans 7 255;bans 0 1;wet0;thrush20;wet 9", 5);
        Check.due("bans", x.bans(7, 0), 255);
        Check.due("bans", x.bans(0, 0), 1);
        Check.due("wet", x.now(4), 9);
        Check.due("thrush", x.set(1, 0), 20);
        due("wet1;wet1;wet1;wet1;wet1;wet1;wet1;wet1;wet1;wet1;wet1;wet1;wet1;wet1;wet1;wet1;"
            + "wet1;wet1;wet1;wet1;wet1;wet1;wet1;wet2", 24);
        Check.due("wet of the last", x.now(4), 2);
        due("wet 0000000000000000000000000000000000000000000000000000000000000000000004", 1);
        Check.due("wet of many digits", x.now(4), 4);
        due("bans 7 0;greens 0 0;greens 80 9;thrush 0;wet 0", 5);
        Check.due("bans of none", x.bans(7, 0), 0);
        Check.due("greens 0", x.land(0, 1), 0);
        Check.due("greens 9", x.land(80, 1), 9);
        Check.due("thrush 0", x.set(1, 1), 0);
        Check.due("wet 0", x.now(4), 0);
        due("snail at 0 law 7 gate 80 price 99", 1);
        dueSnail(7, 0, 0, 7, 80, 99);
        Check.due("no findings", x.status(-1), 0);
    }

    private static void faults() {
        x = new SnailLaws();
        String[] texts = {"", " ", "   ", "snails", "Snail", "5", ";", "snail at", "snail at ", "snail at x",
            "snail at 81", "snail law 8", "snail gate 81", "snail price 100", "snail law 1 at 2",
            "snail price 1 gate 2", "snail at 1 at 2", "snail 5", "snail,", "snail;", "snail ; ", "snail;;snail",
            "snail slow", "hedge", "hedge 81", "hedge at 1", "hedge 1 2", "greens 1", "greens 1 10", "greens 81 1",
            "greens 1;2", "bans 8 1", "bans 1 256", "bans 1", "wet 10", "wet -1", "wet", "thrush 21", "thrush 20 1",
            "wet 1000", "wet 4294967296", "wet 18446744073709551617", "bans 0 1000", "at 5", "law 1", "wet\t5",
            "wet 5\n", "wet 5;thrush 3;hedge", "wet 5 thrush 3", "snailat 5", "a", "wet 5 a", "wet 5 9",
            "wet 5\u00e9", "\u0000", "wet 5;\u00ff", "snail at 5law 3;snail at 5 law 3 x", "we t 5", "wet 5 5",
            "wetx", "we", "snailz", "slowa", "wet 5z", "thrush", "bans", "bans 0", "greens", "greens 0",
            "snail law", "snail gate", "snail price", ";".repeat(120), "snail" + ";".repeat(115),
            "wet 5" + " ".repeat(114) + ";"};
        int[] faults = {0, 1, 3, 0, 0, 0, 0, 8, 9, 9,
            9, 10, 11, 12, 12,
            14, 11, 6, 5, 6, 8, 6,
            6, 5, 6, 6, 8, 8, 9, 7,
            8, 5, 7, 6, 4, 4, 3, 7, 10,
            4, 4, 4, 7, 0, 0, 3,
            5, 20, 6, 0, 0, 6, 6,
            5, 0, 6, 33, 0, 6,
            0, 0, 0, 0, 5, 6, 4, 6, 6, 8,
            9, 10, 11, 0, 6,
            120};
        for (int i = 0; i < texts.length; i++) {
            due(texts[i], -1 - faults[i]);
        }
        Check.due("as many as texts", faults.length, texts.length);
        Check.due("nothing came: snails", x.count(1), 0);
        Check.due("nothing came: hedges", x.count(2), 0);
        Check.due("nothing came: wet", x.now(4), 5);
        Check.due("nothing came: greens", x.now(3), 0);
        Check.due("nothing came: thrush", x.set(1, 1), 1);
        Check.due("nothing came: bans", x.bans(0, 0) + x.bans(1, 0), 0);
        Check.due("no findings", x.status(-1), 0);
    }

    private static void ninthSnail() {
        x = new SnailLaws();
        due("slow;slow;slow;slow;slow;slow;slow;slow;slow", -41);
        Check.due("none came", x.count(1), 0);
        due("slow;slow;slow;slow;slow;slow;slow;slow", 8);
        due("wet 6; slow at 99", -8);
        Check.due("wet stands", x.now(4), 5);
        due("slow", -1);
        due("wet 6", 1);
    }

    private static void textKeepsTheRest() {
        x = new SnailLaws();
        x.snail(5, 0);
        x.go(2);
        x.image();
        x.hold(9, 0);
        x.seed(5);
        due("hedge 40", 1);
        Check.due("day", x.now(0), 2);
        Check.due("laws", x.now(2), 7);
        Check.due("spot", x.as(9, 5), 0);
        Check.due("z", x.count(6), 5);
        Check.due("image", x.undo(), 2);
        Check.due("as before", x.count(2), 0);
    }

    public static void main(String[] args) {
        promises36And37();
        goodTexts();
        faults();
        ninthSnail();
        textKeepsTheRest();
        Check.end("TextTest");
    }
}
