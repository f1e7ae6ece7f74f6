import java.util.function.Consumer;

/** Promises 36 to 38, a test for each of their edges: texts. */
final class TextEdgesTest extends Edges {
    private static void fillTape(SnailLaws x, int bytes) {
        x.wipe();
        Check.feed(x, " ".repeat(bytes));
    }

    private static void feed() {
        range(36, "feed: n", 1, 4, (x, v) -> x.feed(0, v));
        test(36, "feed: onto an empty TAPE", () -> due("feed(0, 1)", new SnailLaws().feed(0, 1), 1));
        for (int n = 1; n <= 4; n++) {
            int bytes = n;
            test(36, "feed: " + n + " up to 120, the most", () -> {
                SnailLaws x = new SnailLaws();
                fillTape(x, 120 - bytes);
                due("feed", x.feed(0, bytes), 120);
                due("count(5)", x.count(5), 120);
            });
            test(36, "feed: " + n + " up to 121 is FULL and changes nothing else",
                () -> refused(FULL, x -> fillTape(x, 121 - bytes), x -> x.feed(-1, bytes)));
        }
        test(36, "feed: 4 onto a full TAPE is FULL", () -> refused(FULL, x -> fillTape(x, 120), x -> x.feed(0, 4)));
        test(36, "feed: behind FULL fewer come that there is room for", () -> {
            SnailLaws x = new SnailLaws();
            fillTape(x, 119);
            due("feed(0, 2)", x.feed(0, 2), FULL);
            due("feed(0, 1)", x.feed(0, 1), 120);
        });
        test(36, "feed: BEYOND (above) is asked before FULL",
            () -> refused(BEYOND, x -> fillTape(x, 120), x -> x.feed(0, 5)));
        test(36, "feed: BEYOND (below) is asked before FULL",
            () -> refused(BEYOND, x -> fillTape(x, 120), x -> x.feed(0, 0)));
        dueBytes("the lowest byte alone", 0xFFFFFF77, 1, "w");
        dueBytes("the two lowest, the highest of these first", 0x7FFF7765, 2, "we");
        dueBytes("the three lowest, the highest of these first", 0xFF776574, 3, "wet");
        dueBytes("all four, the highest first", 0x77657430, 4, "wet0");
        test(36, "feed: a byte 255, from a number below 0", () -> {
            SnailLaws x = new SnailLaws();
            Check.feed(x, "wet 5");
            due("feed(-1, 4)", x.feed(-1, 4), 9);
            due("text()", x.text(), -6);
        });
    }

    /** Bytes of a number are the begin of a text that is fed on. */
    private static void dueBytes(String edge, int bytes, int n, String begin) {
        test(36, "feed: " + edge, () -> {
            SnailLaws x = new SnailLaws();
            due("feed", x.feed(bytes, n), n);
            Check.feed(x, "wet03".substring(begin.length()));
            due("text()", x.text(), 1);
            due("now(4)", x.now(4), 3);
        });
    }

    private static void wipe() {
        test(37, "wipe: an empty TAPE 0", () -> unchanged(0, x -> x.wipe(), x -> x.wipe()));
        test(37, "wipe: a TAPE of one", () -> {
            SnailLaws x = new SnailLaws();
            x.feed(0, 1);
            due("wipe()", x.wipe(), 1);
        });
        test(37, "wipe: a full TAPE 120, and then there is room", () -> {
            SnailLaws x = new SnailLaws();
            fillTape(x, 120);
            due("wipe()", x.wipe(), 120);
            due("count(5)", x.count(5), 0);
            due("feed(0, 4)", x.feed(0, 4), 4);
        });
        test(37, "wipe: what was there is no part of what comes then", () -> {
            SnailLaws x = new SnailLaws();
            Check.feed(x, "hedge 9;wet 9;");
            x.wipe();
            Check.feed(x, "wet 6");
            due("text()", x.text(), 1);
            due("count(2)", x.count(2), 0);
        });
    }

    /** A TEXT with a FAULT: nothing changes but that the tape is empty, and it is no finding. */
    private static void fault(String edge, String text, int place) {
        test(38, "text: a FAULT, " + edge, () -> {
            Consumer<SnailLaws> ahead = x -> {
                x.wipe();
                Check.feed(x, text);
            };
            changesAs(-1 - place, ahead, x -> x.text(), x -> x.wipe());
        });
    }

    /** A TEXT without one: it does what other calls do. */
    private static void good(String edge, String text, int items, Consumer<SnailLaws> calls) {
        test(38, "text: " + edge, () -> {
            Consumer<SnailLaws> ahead = x -> {
                x.wipe();
                Check.feed(x, text);
            };
            changesAs(items, ahead, x -> x.text(), x -> {
                x.wipe();
                calls.accept(x);
            });
        });
    }

    private static void earlyEnds() {
        fault("an empty TAPE", "", 0);
        fault("one blank", " ", 1);
        fault("a full TAPE of blanks", " ".repeat(120), 120);
        fault("it ends behind at", "snail at", 8);
        fault("it ends with a blank behind at: how many bytes there are", "snail at ", 9);
        fault("it ends behind law", "snail law", 9);
        fault("it ends behind gate", "snail gate", 10);
        fault("it ends behind price", "snail price", 11);
        fault("it ends behind hedge", "hedge", 5);
        fault("it ends behind greens", "greens", 6);
        fault("it ends behind the first NUMBER of greens", "greens 1", 8);
        fault("it ends behind bans", "bans", 4);
        fault("it ends behind the first NUMBER of bans", "bans 1", 6);
        fault("it ends behind wet", "wet", 3);
        fault("it ends behind thrush", "thrush", 6);
        fault("it ends behind the SIGN", "wet 6;", 6);
        fault("it ends with a blank behind the SIGN", "wet 6; ", 7);
        fault("a full TAPE that ends behind the SIGN", "wet 6" + " ".repeat(114) + ";", 120);
    }

    private static void wrongNumbers() {
        fault("at 81, outside", "snail at 81", 9);
        fault("law 8, outside", "snail law 8", 10);
        fault("gate 81, outside", "snail gate 81", 11);
        fault("price 100, outside", "snail price 100", 12);
        fault("hedge 81, outside", "hedge 81", 6);
        fault("greens 81, outside", "greens 81 1", 7);
        fault("greens 10, outside", "greens 1 10", 9);
        fault("bans of LAW 8, outside", "bans 8 1", 5);
        fault("bans 256, outside", "bans 1 256", 7);
        fault("wet 10, outside", "wet 10", 4);
        fault("thrush 21, outside", "thrush 21", 7);
        fault("999, the greatest NUMBER", "bans 1 999", 7);
        fault("1000, more than a NUMBER can be", "bans 1 1000", 7);
        fault("a NUMBER that wraps round an int", "wet 4294967301", 4);
        fault("a NUMBER that wraps round a long", "wet 18446744073709551621", 4);
        fault("a NUMBER of the most digits", "wet " + "9".repeat(116), 4);
        fault("a sign isn't part of a NUMBER", "wet -1", 4);
    }

    private static void wrongTokens() {
        fault("the SIGN alone", ";", 0);
        fault("a full TAPE of 120 SIGNS, the most TOKENS", ";".repeat(120), 0);
        fault("a full TAPE of SIGNS behind an ITEM", "wet 6" + ";".repeat(115), 6);
        fault("a NUMBER alone", "5", 0);
        String[] parts = {"at", "law", "gate", "price"};
        for (String part : parts) {
            fault("no ITEM begins with " + part, part + " 5", 0);
            fault(part + " twice", "snail " + part + " 5 " + part + " 5", 9 + part.length());
            fault("the SIGN behind " + part, "snail " + part + ";", 6 + part.length());
        }
        fault("at behind law", "snail law 1 at 2", 12);
        fault("law behind gate", "snail gate 1 law 2", 13);
        fault("gate behind price", "snail price 1 gate 2", 14);
        fault("a NUMBER behind a KIND", "snail 5", 6);
        fault("another KIND behind a KIND", "snail slow", 6);
        fault("a third NUMBER of greens", "greens 1 2 3", 11);
        fault("a third NUMBER of bans", "bans 1 2 3", 9);
        fault("a second NUMBER of hedge", "hedge 1 2", 8);
        fault("a second NUMBER of wet", "wet 6 6", 6);
        fault("a second NUMBER of thrush", "thrush 6 6", 9);
        fault("the SIGN for the second NUMBER of greens", "greens 1;2", 8);
        fault("the SIGN for the second NUMBER of bans", "bans 1;2", 6);
        fault("the SIGN for a NUMBER", "wet;6", 3);
        fault("a WORD for a NUMBER", "wet wet", 4);
        fault("a WORD behind an ITEM", "wet 6 wet 7", 6);
        fault("two SIGNS", "wet 6;;wet 7", 6);
        fault("another WORD: shorter", "snai", 0);
        fault("another WORD: longer", "snails", 0);
        fault("another WORD: another last letter", "snaix", 0);
        fault("another WORD: another first letter", "xnail", 0);
        fault("a is a letter of a WORD", "weta 6", 0);
        fault("z is a letter of a WORD", "wetz 6", 0);
        fault("a WORD of an ITEM and a part without a blank between: as long as can be", "snailat 5", 0);
        fault("a WORD that a blank parts", "we t 6", 0);
        fault("a NUMBER that a blank parts", "bans 1 2 5", 9);
        fault("the first of several counts", "wet 10;hedge 81;x", 4);
        fault("ITEMS ahead of it don't come", "hedge 7;greens 3 3;bans 1 1;wet 9;thrush 8;snail;elder at 9;wet 10", 64);
    }

    private static void wrongBytes() {
        fault("byte 96, just below a", "`", 0);
        fault("byte 123, just above z", "wet 6;{", 6);
        fault("byte 96 ends a WORD", "wet`6", 3);
        fault("byte 47, just below 0", "wet /", 4);
        fault("byte 58, just above 9", "wet 6:", 5);
        fault("byte 60, just above the SIGN", "wet 6<wet 7", 5);
        fault("byte 31, just below the blank", "wet\u001f6", 3);
        fault("byte 33, just above the blank", "wet!6", 3);
        fault("byte 9 is no blank", "wet\t6", 3);
        fault("byte 10 is no blank", "wet 6\n", 5);
        fault("byte 0", "\u0000wet 6", 0);
        fault("byte 127", "wet 6\u007f", 5);
        fault("byte 128", "wet 6 \u0080", 6);
        fault("byte 160 is no blank", "wet\u00a06", 3);
        fault("byte 255", "wet 6;\u00ff", 6);
        fault("A begins no WORD", "A", 0);
        fault("Z is no letter of a WORD", "weZ 6", 0);
        fault("behind a WORD that stands there, its own place", "snail\u00ff", 5);
    }

    private static void ninthSnails() {
        fault("the WORD of a 9th SNAIL", "snail;snail;snail;slow", 18);
        fault("the WORD of a 9th SNAIL, not what follows", "snail;snail;snail; elder at 99", 19);
        fault("one ahead of the 9th SNAIL", "snail;snail;snail at 81;slow", 21);
        String[] kinds = {"snail", "greedy", "slow", "sleepy", "elder", "borne", "glutton"};
        for (String kind : kinds) {
            test(38, "text: a FAULT, where eight are, " + kind, () -> changesAs(-3, x -> {
                fillSnails(x);
                x.wipe();
                Check.feed(x, "  " + kind);
            }, x -> x.text(), x -> {
                fillSnails(x);
                x.wipe();
            }));
        }
        good("the 8th SNAIL", "snail;greedy at 1;slow at 2", 3, Edges::fillSnails);
        test(38, "text: where eight are, other ITEMS", () -> {
            SnailLaws x = laden();
            fillSnails(x);
            due("text()", Check.read(x, "wet 3"), 1);
        });
        test(38, "text: eight SNAILS at once", () -> {
            SnailLaws x = new SnailLaws();
            due("text()", Check.read(x, "slow;slow;slow;slow;slow;slow;slow;slow"), 8);
            due("count(1)", x.count(1), 8);
        });
    }

    private static void goodSnails() {
        String[] kinds = {"snail", "greedy", "slow", "sleepy", "elder", "borne", "glutton"};
        for (int k = 0; k < 7; k++) {
            int kind = k;
            good("the WORD " + kinds[k] + " alone, as at first", kinds[k], 1, x -> x.snail(kind, 0));
        }
        good("a SNAIL with the first of all", "snail at 0 law 0 gate 0 price 0", 1, x -> {
            x.snail(0, 0);
            x.change(5, 3, 0);
            x.change(5, 4, 0);
        });
        good("a SNAIL with the last of all", "snail at 80 law 7 gate 80 price 99", 1, x -> {
            x.snail(0, 80);
            x.change(5, 2, 7);
            x.change(5, 4, 99);
        });
        good("a SNAIL with at alone", "slow at 7", 1, x -> x.snail(2, 7));
        good("a SNAIL with law alone", "slow law 7", 1, x -> {
            x.snail(2, 0);
            x.change(5, 2, 7);
        });
        good("a SNAIL with gate alone", "slow gate 7", 1, x -> {
            x.snail(2, 0);
            x.change(5, 3, 7);
        });
        good("a SNAIL with price alone", "slow price 7", 1, x -> {
            x.snail(2, 0);
            x.change(5, 4, 7);
        });
    }

    private static void goodItems() {
        good("hedge 0, the first", "hedge 0", 1, x -> x.hedge(0, 1));
        good("hedge 80, the last", "hedge 80", 1, x -> x.hedge(80, 1));
        good("hedge of what is one already", "hedge 70", 1, x -> { });
        good("greens, the first of both", "greens 0 0", 1, x -> x.greens(0, 0));
        good("greens, the last of both", "greens 80 9", 1, x -> x.greens(80, 9));
        good("bans, the first of both", "bans 0 0", 1, x -> x.bans(0, 0));
        good("bans, the last of both", "bans 7 255", 1, x -> x.bans(7, 255));
        good("bans of none where some were", "bans 1 0", 1, x -> x.bans(1, 0));
        good("wet 0, the first", "wet 0", 1, x -> x.set(0, 0));
        good("wet 9, the last", "wet 9", 1, x -> x.set(0, 9));
        good("thrush 0, the first", "thrush 0", 1, x -> x.set(1, 0));
        good("thrush 20, the last", "thrush 20", 1, x -> x.set(1, 20));
        good("the later ITEM of the same counts", "wet 1;greens 5 1;wet 2;greens 5 3", 4, x -> {
            x.set(0, 2);
            x.greens(5, 3);
        });
        good("the most ITEMS on a full TAPE", "wet1;".repeat(23) + "wet 2", 24, x -> x.set(0, 2));
    }

    private static void goodTokens() {
        good("no blanks", "wet3;thrush5;greens4 5;snail at5law6gate7price8", 4, x -> {
            x.set(0, 3);
            x.set(1, 5);
            x.greens(4, 5);
            x.snail(0, 5);
            x.change(5, 2, 6);
            x.change(5, 3, 7);
            x.change(5, 4, 8);
        });
        good("blanks ahead, between and behind", "   wet   3  ;  thrush 5   ", 2, x -> {
            x.set(0, 3);
            x.set(1, 5);
        });
        good("a full TAPE with blanks", " ".repeat(115) + "wet 3", 1, x -> x.set(0, 3));
        good("a NUMBER that begins with 0", "wet 0003;hedge 007", 2, x -> {
            x.set(0, 3);
            x.hedge(7, 1);
        });
        good("a NUMBER of the most digits that is small", "wet " + "0".repeat(115) + "3", 1, x -> x.set(0, 3));
        test(38, "text: a TEXT that was read isn't there again", () -> {
            SnailLaws x = new SnailLaws();
            due("text()", Check.read(x, "snail"), 1);
            due("count(5)", x.count(5), 0);
            due("text()", x.text(), -1);
            due("count(1)", x.count(1), 1);
        });
        test(38, "text: behind a FAULT another TEXT is read from its begin", () -> {
            SnailLaws x = new SnailLaws();
            due("a FAULT", Check.read(x, "snail;slow;hedge 99"), -18);
            Check.feed(x, "wet 6");
            due("text()", x.text(), 1);
            due("now(4)", x.now(4), 6);
            due("count(1)", x.count(1), 0);
        });
    }

    public static void main(String[] args) {
        feed();
        wipe();
        earlyEnds();
        wrongNumbers();
        wrongTokens();
        wrongBytes();
        ninthSnails();
        goodSnails();
        goodItems();
        goodTokens();
        Check.end("TextEdgesTest", 36, 38);
    }
}
