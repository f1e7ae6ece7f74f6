/** Promises 39 to 45: spots, sheets. */
final class SheetTest {
    private static SnailLaws x;

    private static void promises39And40() {
        x = new SnailLaws();
        Check.due("hold no snail yet", x.hold(0, 0), Check.BEYOND);
        Check.due("hold nothing", x.hold(0, -1), 1);
        boolean[][] is = {{true, false, false, false, false, false, false},
            {true, true, false, false, false, false, false}, {true, false, true, false, false, false, false},
            {true, false, true, true, false, false, false}, {true, false, true, true, true, false, false},
            {true, false, false, false, false, true, false}, {true, true, false, false, false, false, true}};
        for (int s = 0; s < 7; s++) {
            x.snail(s, 0);
            Check.due("hold", x.hold(9 - s, s), 1);
            for (int kind = 0; kind < 7; kind++) {
                Check.due("a " + s + " as a " + kind, x.as(9 - s, kind), is[s][kind] ? s : Check.KIND);
            }
        }
        Check.due("held", x.count(7), 7);
        x.change(0, 0, 4);
        Check.due("by its kind now", x.as(9, 3), 0);
        Check.due("nothing", x.as(0, 0), Check.MISSING);
        Check.due("hold nothing", x.hold(9, -1), 1);
        Check.due("nothing", x.as(9, 3), Check.MISSING);
        Check.due("held", x.count(7), 6);
        int[][] wrong = {{-1, 0}, {10, 0}, {0, 7}, {0, -2}, {Check.LEAST, 0}, {Check.GREATEST, -1},
            {0, Check.LEAST}, {0, Check.GREATEST}};
        for (int[] w : wrong) {
            Check.due("hold wrong", x.hold(w[0], w[1]), Check.BEYOND);
        }
        int[][] wrongKinds = {{-1, 0}, {10, 0}, {0, -1}, {0, 7}, {Check.LEAST, 0}, {Check.GREATEST, 0},
            {0, Check.LEAST}, {0, Check.GREATEST}};
        for (int[] w : wrongKinds) {
            Check.due("as wrong", x.as(w[0], w[1]), Check.BEYOND);
        }
        Check.due("held", x.count(7), 6);
    }

    private static void promise41() {
        x = new SnailLaws();
        Check.due("sheet", x.sheet(0, 8, 40), 40);
        Check.due("sheet of none", x.sheet(3, 32, 0), 0);
        Check.due("which is a sheet", x.load(3), 0);
        Check.due("bits 0", x.sheet(0, 0, 40), 0);
        Check.due("MISSING", x.load(0), Check.MISSING);
        x.sheet(1, 16, 2);
        x.write(1, 0, 5);
        Check.due("again", x.sheet(1, 16, 3), 3);
        Check.due("all 0", x.load(1), 3);
        Check.due("all 0", x.land(0, 1), 0);
        Check.due("no such sheet", x.sheet(-1, 8, 1), Check.BEYOND);
        Check.due("no such sheet", x.sheet(4, 8, 1), Check.BEYOND);
        Check.due("BEYOND first", x.sheet(4, 8, -1), Check.BEYOND);
        int[] bits = {-8, 1, 7, 9, 24, 64, Check.LEAST, Check.GREATEST};
        for (int b : bits) {
            Check.due("other bits", x.sheet(0, b, -1), Check.BEYOND);
        }
        for (int b = 0; b <= 32; b += b == 16 ? 16 : 8) {
            Check.due("SIZE", x.sheet(1, b, -1), Check.SIZE);
            Check.due("SIZE", x.sheet(1, b, Check.LEAST), Check.SIZE);
            Check.due("too many", x.sheet(1, b, 41), Check.BEYOND);
            Check.due("too many", x.sheet(1, b, Check.GREATEST), Check.BEYOND);
        }
        Check.due("it stands", x.load(1), 3);
        Check.due("SIZE counted", x.status(6), 8);
    }

    private static void promise42() {
        x = new SnailLaws();
        x.snail(0, 3);
        x.change(0, 3, 3);
        x.change(0, 2, 6);
        x.go(1);
        Check.due("no such sheet", x.write(4, 0, 1), Check.BEYOND);
        Check.due("MISSING", x.write(0, 99, 1), Check.MISSING);
        int[] widths = {8, 16, 32};
        for (int bits : widths) {
            x.sheet(0, bits, 4);
            for (int i = 0; i < 3; i++) {
                Check.due("write", x.write(0, i, -1), 1);
            }
            Check.due("write", x.write(0, 3, 6), 1);
            Check.due("judged so", x.judge(0), 0);
            Check.due("255", x.write(0, 0, 255), 1);
            Check.due("of 8 bits it is -1", x.judge(0), bits == 8 ? 0 : 1);
            x.write(0, 0, 65535);
            Check.due("of 16 bits -1 too", x.judge(0), bits == 32 ? 1 : 0);
            x.write(0, 0, -1);
            x.write(0, 3, 256 + 6);
            Check.due("its lowest bits", x.judge(0), bits == 8 ? 0 : 4);
            x.write(0, 3, Check.LEAST + 6);
            Check.due("its lowest bits", x.judge(0), bits == 32 ? 4 : 0);
            x.write(0, 0, 127);
            x.write(0, 1, 128);
            x.write(0, 0, 9);
            x.write(0, 1, 128 + 1);
            Check.due("128 and 1 of 8 bits is below 0", x.load(0), 1);
            Check.due("no such number", x.write(0, 4, 1), Check.BEYOND);
            Check.due("no such number", x.write(0, -1, 1), Check.BEYOND);
            Check.due("no such number", x.write(0, Check.LEAST, 1), Check.BEYOND);
            Check.due("no such number", x.write(0, Check.GREATEST, 1), Check.BEYOND);
        }
        Check.due("no such sheet", x.write(-1, 0, 1), Check.BEYOND);
        Check.due("no such sheet", x.write(Check.GREATEST, 0, 1), Check.BEYOND);
    }

    private static void promise43() {
        x = new SnailLaws();
        x.sheet(0, 8, 9);
        x.sheet(1, 8, 40);
        x.sheet(2, 16, 9);
        for (int i = 0; i < 9; i++) {
            x.write(0, i, i + 1);
        }
        Check.due("no such sheet", x.copy(4, 0, 0, 0, 1), Check.BEYOND);
        Check.due("no such sheet", x.copy(3, 0, 4, 0, 1), Check.BEYOND);
        Check.due("no such sheet", x.copy(0, 0, -1, 0, 1), Check.BEYOND);
        Check.due("one is MISSING", x.copy(3, 0, 0, 0, 1), Check.MISSING);
        Check.due("one is MISSING", x.copy(0, -1, 3, 0, 1), Check.MISSING);
        Check.due("not of as many bits", x.copy(0, -1, 2, 0, 1), Check.KIND);
        int[][] wrong = {{-1, 0, 1}, {0, -1, 1}, {0, 0, -1}, {9, 0, 1}, {0, 40, 1}, {1, 0, 9}, {0, 32, 9},
            {0, 0, 10}, {Check.GREATEST, 0, Check.GREATEST}, {1, 1, Check.GREATEST}, {Check.LEAST, 0, 0},
            {0, Check.GREATEST, 1}, {0, 0, Check.LEAST}, {10, 0, 0}, {0, 41, 0}};
        for (int[] w : wrong) {
            Check.due("copy wrong", x.copy(0, w[0], 1, w[1], w[2]), Check.BEYOND);
        }
        Check.due("nothing", x.copy(0, 9, 1, 40, 0), 0);
        Check.due("copy", x.copy(0, 0, 1, 31, 9), 9);
        Check.due("copy back in front", x.copy(1, 31, 1, 0, 3), 3);
        Check.due("load", x.load(1), 40);
        Check.due("came first", x.land(2, 1), 3);
        Check.due("not a fourth", x.land(3, 1), 0);
        Check.due("came last", x.land(39, 1), 9);
        Check.due("onto itself, upward", x.copy(0, 0, 0, 2, 7), 7);
        x.load(0);
        for (int i = 0; i < 9; i++) {
            Check.due("as they all were " + i, x.land(i, 1), i < 2 ? i + 1 : i - 1);
        }
        Check.due("onto itself, downward", x.copy(0, 2, 0, 1, 7), 7);
        x.load(0);
        for (int i = 0; i < 9; i++) {
            Check.due("as they all were, down " + i, x.land(i, 1), new int[] {1, 1, 2, 3, 4, 5, 6, 7, 7}[i]);
        }
    }

    private static void promise44() {
        x = new SnailLaws();
        x.greens(3, 5);
        x.greens(2, 7);
        x.sheet(2, 32, 4);
        x.write(2, 0, 9);
        x.write(2, 2, 10);
        Check.due("up to the first that isn't 0 to 9", x.load(2), 2);
        Check.due("load", x.land(0, 1), 9);
        Check.due("load", x.land(1, 1), 0);
        Check.due("not that", x.land(2, 1), 7);
        Check.due("nor behind it", x.land(3, 1), 5);
        x.write(2, 0, -1);
        Check.due("not below 0", x.load(2), 0);
        x.write(2, 0, Check.LEAST);
        Check.due("not the least", x.load(2), 0);
        Check.due("greens stand", x.land(0, 1), 9);
        int[] wrong = {-1, 4, Check.LEAST, Check.GREATEST};
        for (int s : wrong) {
            Check.due("load wrong", x.load(s), Check.BEYOND);
            Check.due("judge wrong", x.judge(s), Check.BEYOND);
        }
        Check.due("load MISSING", x.load(0), Check.MISSING);
        Check.due("judge MISSING", x.judge(0), Check.MISSING);
    }

    private static void promise45() {
        x = new SnailLaws();
        x.snail(0, 1);
        x.change(0, 3, 1);
        x.change(0, 2, 7);
        x.go(1);
        x.sheet(0, 8, 0);
        Check.due("of none so", x.judge(0), 0);
        x.sheet(0, 8, 3);
        Check.due("0 isn't none", x.judge(0), 1);
        x.write(0, 0, -1);
        Check.due("not 7", x.judge(0), 2);
        x.write(0, 1, 7);
        Check.due("not none", x.judge(0), 3);
        x.write(0, 2, -1);
        Check.due("so", x.judge(0), 0);
        x.write(0, 0, -2);
        Check.due("-2 is no law and not none", x.judge(0), 1);
        Check.due("no findings", x.status(-1), 0);
    }

    public static void main(String[] args) {
        promises39And40();
        promise41();
        promise42();
        promise43();
        promise44();
        promise45();
        Check.end("SheetTest");
    }
}
