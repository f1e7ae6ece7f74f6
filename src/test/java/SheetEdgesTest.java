/** Promises 39 to 45, a test for each of their edges: spots, sheets. */
final class SheetEdgesTest extends Edges {
    private static void hold() {
        range(39, "hold: SPOT", 0, 9, (x, v) -> x.hold(v, 1));
        range(39, "hold: SNAIL or nothing", -1, 4, (x, v) -> x.hold(5, v));
        test(39, "hold: no SNAIL at all: nothing can be held, a SNAIL can't", () -> {
            SnailLaws x = new SnailLaws();
            due("hold(0, -1)", x.hold(0, -1), 1);
            due("hold(0, 0)", x.hold(0, 0), BEYOND);
            due("count(7)", x.count(7), 0);
        });
        test(39, "hold: the last of eight SNAILS", () -> {
            SnailLaws x = laden();
            fillSnails(x);
            due("hold(9, 7)", x.hold(9, 7), 1);
            due("as(9, 0)", x.as(9, 0), 7);
            due("hold(9, 8)", x.hold(9, 8), BEYOND);
        });
        test(39, "hold: all SPOTS hold the same one", () -> {
            SnailLaws x = laden();
            for (int spot = 0; spot < 10; spot++) {
                due("hold(" + spot + ", 0)", x.hold(spot, 0), 1);
            }
            due("count(7)", x.count(7), 10);
        });
        test(39, "hold: another one instead", () -> {
            SnailLaws x = laden();
            due("hold(4, 1)", x.hold(4, 1), 1);
            due("as(4, 1)", x.as(4, 1), 1);
            due("count(7)", x.count(7), 2);
        });
        test(39, "hold: nothing where one was held", () -> {
            SnailLaws x = laden();
            due("hold(4, -1)", x.hold(4, -1), 1);
            due("as(4, 0)", x.as(4, 0), MISSING);
        });
        test(39, "hold: nothing where nothing was", () -> unchanged(1, x -> { }, x -> x.hold(5, -1)));
    }

    private static void as() {
        range(40, "as: SPOT", 0, 9, (x, v) -> x.as(v, 0));
        range(40, "as: KIND", 0, 6, (x, v) -> x.as(4, v));
        test(40, "as: it holds nothing: MISSING, and nothing else changes", () -> refused(MISSING, x -> x.as(5, 0)));
        test(40, "as: another KIND: KIND, and nothing else changes", () -> refused(KIND, x -> { }, x -> x.as(4, 1)));
        test(40, "as: BEYOND of the KIND is asked before MISSING", () -> refused(BEYOND, x -> x.as(5, 7)));
        test(40, "as: nothing changes", () -> unchanged(2, x -> { }, x -> x.as(9, 2)));
        String[] names = {"a SNAIL", "a GREEDY one", "a SLOW one", "a SLEEPY one", "an ELDER", "a BORNE one",
            "a GLUTTON"};
        String[] under = {"0", "0 1", "0 2", "0 2 3", "0 2 3 4", "0 5", "0 1 6"};
        for (int k = 0; k < 7; k++) {
            for (int a = 0; a < 7; a++) {
                int kind = k;
                int above = a;
                boolean is = under[kind].contains("" + above);
                test(40, "as: " + names[kind] + (is ? " is " : " is not ") + names[above], () -> {
                    SnailLaws x = laden();
                    x.change(2, 0, kind);
                    due("as(9, " + above + ")", x.as(9, above), is ? 2 : KIND);
                });
            }
        }
    }

    private static void sheet() {
        range(41, "sheet: sheet", 0, 3, (x, v) -> x.sheet(v, 8, 2));
        int[] bits = {0, 8, 16, 32};
        int[] others = {-1, 1, 7, 9, 15, 17, 24, 31, 33, 40, 64, -8, LEAST, GREATEST};
        outside(41, "sheet: bits", others, (x, v) -> x.sheet(1, v, 2));
        for (int b : bits) {
            test(41, "sheet: " + b + " bits, no numbers", () -> due("sheet", laden().sheet(0, b, 0), 0));
            test(41, "sheet: " + b + " bits, 40 numbers, the most",
                () -> due("sheet", laden().sheet(0, b, 40), b == 0 ? 0 : 40));
            test(41, "sheet: " + b + " bits, n -1 is SIZE and changes nothing else",
                () -> refused(SIZE, x -> { }, x -> x.sheet(0, b, -1)));
            test(41, "sheet: " + b + " bits, the least n is SIZE", () -> refused(SIZE, x -> x.sheet(0, b, LEAST)));
            test(41, "sheet: " + b + " bits, n 41 is BEYOND and changes nothing else",
                () -> refused(BEYOND, x -> x.sheet(0, b, 41)));
            test(41, "sheet: " + b + " bits, the greatest n is BEYOND",
                () -> refused(BEYOND, x -> x.sheet(0, b, GREATEST)));
        }
        test(41, "sheet: BEYOND (no such sheet) is asked before SIZE", () -> refused(BEYOND, x -> x.sheet(4, 8, -1)));
        test(41, "sheet: BEYOND (other bits) is asked before SIZE", () -> refused(BEYOND, x -> x.sheet(0, 9, -1)));
        test(41, "sheet: bits 0 make it MISSING, and 0 is answered", () -> {
            SnailLaws x = laden();
            due("sheet(0, 0, 7)", x.sheet(0, 0, 7), 0);
            due("load(0)", x.load(0), MISSING);
        });
        test(41, "sheet: bits 0 of a MISSING one", () -> unchanged(0, x -> { }, x -> x.sheet(3, 0, 7)));
        test(41, "sheet: one of no numbers isn't MISSING", () -> {
            SnailLaws x = new SnailLaws();
            x.sheet(0, 8, 0);
            due("load(0)", x.load(0), 0);
        });
        test(41, "sheet: all 0, also where other numbers were", () -> {
            SnailLaws x = laden();
            due("sheet(0, 8, 40)", x.sheet(0, 8, 40), 40);
            due("load(0)", x.load(0), 40);
            for (int cell = 0; cell < 40; cell++) {
                due("land(" + cell + ", 1)", x.land(cell, 1), 0);
            }
        });
        for (int i = 0; i < 4; i++) {
            int s = i;
            test(41, "sheet: sheet " + s + " of the most numbers is all 0 again, and the others stand",
                () -> dueAnew(s));
        }
        test(41, "sheet: the others stand", () -> {
            SnailLaws x = laden();
            x.sheet(0, 8, 40);
            due("load(1)", x.load(1), 3);
            due("land(1, 1)", x.land(1, 1), 5);
        });
    }

    /** All sheets have 40 numbers, all 9; one is laid anew. */
    private static void dueAnew(int anew) {
        SnailLaws x = new SnailLaws();
        x.sheet(0, 8, 40);
        for (int i = 0; i < 40; i++) {
            x.write(0, i, 9);
        }
        for (int s = 1; s < 4; s++) {
            x.sheet(s, 8, 40);
            x.copy(0, 0, s, 0, 40);
        }
        due("sheet", x.sheet(anew, 8, 40), 40);
        for (int s = 0; s < 4; s++) {
            due("load(" + s + ")", x.load(s), 40);
            for (int cell = 0; cell < 40; cell++) {
                due("sheet " + s + ", number " + cell, x.land(cell, 1), s == anew ? 0 : 9);
            }
        }
    }

    /** Stand for the number -1, by which a trail goes anywhere, and for numbers that no trail has. */
    private static final int ANYWHERE = -1;
    private static final int NO_CELL = -2;

    /** What number, as a trail tells it, comes of one that is written. */
    private static void dueNumber(int bits, int v, int want, String edge) {
        test(42, "write: " + bits + " bits, " + edge, () -> {
            SnailLaws x = new SnailLaws();
            Check.add(x, 0, 0, 0, 0);
            x.sheet(0, bits, 1);
            due("write(0, 0, " + v + ")", x.write(0, 0, v), 1);
            due("fits(0, 0)", x.fits(0, 0), want == ANYWHERE ? 81 : want == NO_CELL ? 0 : 1);
            due("began(0, 0)", x.began(0, 0), want == ANYWHERE ? 0 : want == NO_CELL ? NONE : want);
        });
    }

    private static void lowestBits() {
        dueNumber(8, 80, 80, "80");
        dueNumber(8, -1, ANYWHERE, "-1");
        dueNumber(8, 127, NO_CELL, "127, the last above 0");
        dueNumber(8, 128, NO_CELL, "128 is below 0");
        dueNumber(8, 255, ANYWHERE, "255 is -1");
        dueNumber(8, 256, 0, "256 is 0");
        dueNumber(8, 256 + 80, 80, "336 is 80");
        dueNumber(8, -256 + 80, 80, "-176 is 80");
        dueNumber(8, LEAST, 0, "the least int is 0");
        dueNumber(8, GREATEST, ANYWHERE, "the greatest int is -1");
        dueNumber(16, 80, 80, "80");
        dueNumber(16, -1, ANYWHERE, "-1");
        dueNumber(16, 255, NO_CELL, "255");
        dueNumber(16, 256 + 80, NO_CELL, "336");
        dueNumber(16, 32768, NO_CELL, "32768 is below 0");
        dueNumber(16, 65535, ANYWHERE, "65535 is -1");
        dueNumber(16, 65536, 0, "65536 is 0");
        dueNumber(16, 65536 + 80, 80, "65616 is 80");
        dueNumber(16, -65536 + 80, 80, "-65456 is 80");
        dueNumber(16, LEAST, 0, "the least int is 0");
        dueNumber(16, GREATEST, ANYWHERE, "the greatest int is -1");
        dueNumber(32, 80, 80, "80");
        dueNumber(32, -1, ANYWHERE, "-1");
        dueNumber(32, 255, NO_CELL, "255");
        dueNumber(32, 65535, NO_CELL, "65535");
        dueNumber(32, 65536 + 80, NO_CELL, "65616");
        dueNumber(32, LEAST, NO_CELL, "the least int");
        dueNumber(32, GREATEST, NO_CELL, "the greatest int");
        dueNumber(32, LEAST + 80, NO_CELL, "the least int and 80");
    }

    private static void write() {
        range(42, "write: sheet", 0, 3, (x, v) -> x.write(v, 0, 1));
        range(42, "write: number, of ten", 0, 9, (x, v) -> x.write(0, v, 1));
        test(42, "write: number 0 of none is BEYOND",
            () -> refused(BEYOND, x -> x.sheet(3, 8, 0), x -> x.write(3, 0, 1)));
        test(42, "write: number 39, the last of the most", () -> {
            SnailLaws x = laden();
            x.sheet(3, 8, 40);
            due("write(3, 39, 7)", x.write(3, 39, 7), 1);
            due("load(3)", x.load(3), 40);
            due("land(39, 1)", x.land(39, 1), 7);
        });
        test(42, "write: number 40 of the most is BEYOND",
            () -> refused(BEYOND, x -> x.sheet(3, 8, 40), x -> x.write(3, 40, 1)));
        test(42, "write: MISSING, and nothing else changes", () -> refused(MISSING, x -> x.write(3, 0, 1)));
        test(42, "write: MISSING is asked before BEYOND of the number", () -> refused(MISSING, x -> x.write(3, -1, 1)));
        test(42, "write: no other number changes", () -> {
            SnailLaws x = laden();
            x.write(0, 4, 0);
            x.load(0);
            for (int i = 0; i < 10; i++) {
                due("land(" + i + ", 1)", x.land(i, 1), i == 4 ? 0 : 9 - i);
            }
        });
        lowestBits();
    }

    private static void copyFindings() {
        range(43, "copy: sheet", 0, 3, (x, v) -> x.copy(v, 0, 0, 0, 1));
        range(43, "copy: other sheet", 0, 3, (x, v) -> x.copy(0, 0, v, 0, 1));
        test(43, "copy: the one is MISSING, and nothing else changes",
            () -> refused(MISSING, x -> x.copy(3, 0, 0, 0, 1)));
        test(43, "copy: the other is MISSING, and nothing else changes",
            () -> refused(MISSING, x -> x.copy(0, 0, 3, 0, 1)));
        test(43, "copy: both are MISSING", () -> refused(MISSING, x -> x.copy(3, 0, 3, 0, 0)));
        test(43, "copy: BEYOND (no such sheet) is asked before MISSING", () -> {
            refused(BEYOND, x -> x.copy(3, 0, 4, 0, 1));
            refused(BEYOND, x -> x.copy(4, 0, 3, 0, 1));
        });
        test(43, "copy: MISSING is asked before BEYOND of the numbers",
            () -> refused(MISSING, x -> x.copy(0, -1, 3, 0, 1)));
        test(43, "copy: not of as many bits: KIND, and nothing else changes",
            () -> refused(KIND, x -> x.copy(0, 0, 2, 0, 1)));
        test(43, "copy: not of as many bits, no numbers: KIND", () -> refused(KIND, x -> x.copy(2, 0, 0, 0, 0)));
        test(43, "copy: KIND is asked before BEYOND of the numbers", () -> refused(KIND, x -> x.copy(0, -1, 2, 0, 1)));
        int[][] wrong = {{-1, 0, 1}, {0, -1, 1}, {0, 0, -1}, {0, 0, 4}, {8, 0, 3}, {10, 0, 1}, {0, 1, 3}, {0, 3, 1},
            {11, 0, 0}, {0, 4, 0}, {-1, 0, 0}, {0, -1, 0}, {LEAST, 0, 1}, {0, LEAST, 1}, {0, 0, LEAST},
            {GREATEST, 0, 1}, {0, GREATEST, 1}, {0, 0, GREATEST}, {1, 1, GREATEST}, {GREATEST, GREATEST, GREATEST}};
        for (int[] w : wrong) {
            test(43, "copy: of ten from " + w[0] + " to three from " + w[1] + ", " + w[2] + " numbers: BEYOND",
                () -> refused(BEYOND, x -> x.copy(0, w[0], 1, w[1], w[2])));
        }
        test(43, "copy: the one has not so many, the other has: BEYOND",
            () -> refused(BEYOND, x -> x.copy(1, 0, 0, 0, 4)));
    }

    private static void copy() {
        test(43, "copy: no numbers", () -> unchanged(0, x -> { }, x -> x.copy(0, 0, 1, 0, 0)));
        test(43, "copy: no numbers from the end to the end", () -> unchanged(0, x -> { }, x -> x.copy(0, 10, 1, 3, 0)));
        test(43, "copy: onto itself", () -> unchanged(10, x -> { }, x -> x.copy(0, 0, 0, 0, 10)));
        dueCopy("the last of one to all of the other", 0, 7, 1, 0, 3, new int[] {2, 1, 0}, 1);
        dueCopy("the first to the last", 0, 0, 1, 2, 1, new int[] {0, 5, 9}, 1);
        dueCopy("upward as they all were", 0, 0, 0, 1, 9, new int[] {9, 9, 8, 7, 6, 5, 4, 3, 2, 1}, 0);
        dueCopy("downward as they all were", 0, 1, 0, 0, 9, new int[] {8, 7, 6, 5, 4, 3, 2, 1, 0, 0}, 0);
        dueCopy("the one stands", 0, 7, 1, 0, 3, new int[] {9, 8, 7, 6, 5, 4, 3, 2, 1, 0}, 0);
        test(43, "copy: 40, the most", () -> {
            SnailLaws x = new SnailLaws();
            x.sheet(1, 32, 40);
            x.sheet(3, 32, 40);
            for (int i = 0; i < 40; i++) {
                x.write(1, i, i % 10);
            }
            due("copy(1, 0, 3, 0, 40)", x.copy(1, 0, 3, 0, 40), 40);
            due("load(3)", x.load(3), 40);
            for (int i = 0; i < 40; i++) {
                due("land(" + i + ", 1)", x.land(i, 1), i % 10);
            }
        });
    }

    /** Behind a copy a sheet has these numbers. */
    private static void dueCopy(String edge, int s, int from, int t, int to, int n, int[] want, int asked) {
        test(43, "copy: " + edge, () -> {
            SnailLaws x = laden();
            due("copy", x.copy(s, from, t, to, n), n);
            due("load(" + asked + ")", x.load(asked), want.length);
            for (int i = 0; i < want.length; i++) {
                due("number " + i, x.land(i, 1), want[i]);
            }
        });
    }

    private static void load() {
        range(44, "load: sheet", 0, 3, (x, v) -> x.load(v));
        test(44, "load: MISSING, and nothing else changes", () -> refused(MISSING, x -> x.load(3)));
        test(44, "load: no numbers", () -> unchanged(0, x -> x.sheet(3, 8, 0), x -> x.load(3)));
        test(44, "load: 40 numbers, the most", () -> {
            SnailLaws x = laden();
            x.greens(40, 4);
            x.sheet(3, 16, 40);
            x.write(3, 39, 9);
            due("load(3)", x.load(3), 40);
            due("land(0, 1)", x.land(0, 1), 0);
            due("land(39, 1)", x.land(39, 1), 9);
            due("land(40, 1)", x.land(40, 1), 4);
        });
        int[] ends = {-1, 10, LEAST, GREATEST};
        for (int v : ends) {
            test(44, "load: it ends at " + v, () -> {
                SnailLaws x = laden();
                x.greens(1, 6);
                x.sheet(3, 32, 3);
                x.write(3, 0, 9);
                x.write(3, 1, v);
                x.write(3, 2, 3);
                x.greens(2, 7);
                due("load(3)", x.load(3), 1);
                due("land(0, 1)", x.land(0, 1), 9);
                due("land(1, 1)", x.land(1, 1), 6);
                due("land(2, 1)", x.land(2, 1), 7);
            });
        }
        test(44, "load: the first isn't 0 to 9: none come", () -> unchanged(0, x -> x.write(2, 0, 10), x -> x.load(2)));
        test(44, "load: 0, the first, comes where other GREENS were", () -> {
            SnailLaws x = laden();
            x.greens(0, 5);
            x.write(2, 0, 0);
            due("load(2)", x.load(2), 2);
            due("land(0, 1)", x.land(0, 1), 0);
        });
    }

    private static void judge() {
        range(45, "judge: sheet", 0, 3, (x, v) -> x.judge(v));
        test(45, "judge: MISSING, and nothing else changes", () -> refused(MISSING, x -> x.judge(3)));
        test(45, "judge: no numbers are so", () -> unchanged(0, x -> x.sheet(3, 8, 0), x -> x.judge(3)));
        int[] widths = {8, 16, 32};
        for (int bits : widths) {
            test(45, "judge: " + bits + " bits, 40 numbers, the most, are so",
                () -> due("judge", judged(bits).judge(3), 0));
            test(45, "judge: " + bits + " bits, the first isn't so", () -> dueJudged(bits, 0, 7, 1));
            test(45, "judge: " + bits + " bits, the last isn't so", () -> dueJudged(bits, 39, 0, 40));
            test(45, "judge: " + bits + " bits, another LAW is in force", () -> dueJudged(bits, 3, 6, 4));
            test(45, "judge: " + bits + " bits, none where a LAW is in force", () -> dueJudged(bits, 3, -1, 4));
            test(45, "judge: " + bits + " bits, -2 isn't none", () -> dueJudged(bits, 5, -2, 6));
            test(45, "judge: " + bits + " bits, 8 is no LAW", () -> dueJudged(bits, 5, 8, 6));
        }
        test(45, "judge: of several the first", () -> {
            SnailLaws x = judged(8);
            x.write(3, 20, 1);
            x.write(3, 10, 1);
            due("judge(3)", x.judge(3), 11);
        });
        test(45, "judge: LAW 0 isn't none", () -> {
            SnailLaws x = new SnailLaws();
            x.sheet(0, 8, 1);
            due("judge(0)", x.judge(0), 1);
            x.snail(0, 0);
            x.go(1);
            due("judge(0) behind a DAY", x.judge(0), 0);
        });
        test(45, "judge: nothing changes", () -> unchanged(1, x -> { }, x -> x.judge(0)));
    }

    /** Sheet 3 tells the LAWS at 40 CELLS: LAW 7 at CELLS 1 to 4 and none elsewhere. */
    private static SnailLaws judged(int bits) {
        SnailLaws x = new SnailLaws();
        Check.add(x, 5, 1, 7, 8);
        x.go(1);
        x.sheet(3, bits, 40);
        for (int i = 0; i < 40; i++) {
            x.write(3, i, i >= 1 && i <= 4 ? 7 : -1);
        }
        return x;
    }

    private static void dueJudged(int bits, int i, int v, int want) {
        SnailLaws x = judged(bits);
        x.write(3, i, v);
        due("judge(3)", x.judge(3), want);
    }

    public static void main(String[] args) {
        hold();
        as();
        sheet();
        write();
        copyFindings();
        copy();
        load();
        judge();
        Check.end("SheetEdgesTest", 39, 45);
    }
}
