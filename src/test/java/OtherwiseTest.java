import java.math.BigInteger;
import java.util.ArrayList;
import java.util.List;
import java.util.function.Consumer;
import java.util.function.Predicate;

/**
 * Answers got once more as the document's words say, by other calls on another object that was made
 * alike: what a call tells ahead is what comes, if it is done.
 */
final class OtherwiseTest {
    private static final int REPUBLICS = 60;
    private static final int NONE = Check.NONE;
    private static final int ALL = 255;

    private static long draw = 20261118;
    private static List<Consumer<SnailLaws>> land;
    private static List<Consumer<SnailLaws>> snails;
    private static int days;
    private static String name;

    private static int below(int n) {
        draw = draw * 6364136223846793005L + 1442695040888963407L;
        return (int) ((draw >>> 33) % n);
    }

    /** Draws how a republic is made; behind some days of its snails, unless it is to be fresh. */
    private static void drawRepublic(int number, boolean fresh) {
        name = "republic " + number + ": ";
        land = new ArrayList<>();
        snails = new ArrayList<>();
        for (int i = below(24); i > 0; i--) {
            int cell = below(81);
            land.add(x -> x.hedge(cell, 1));
        }
        for (int i = below(16); i > 0; i--) {
            int cell = below(81);
            int v = 1 + below(9);
            land.add(x -> x.greens(cell, v));
        }
        for (int l = 0; l < 4; l++) {
            int law = l;
            int set = below(256);
            land.add(x -> x.bans(law, set));
        }
        int wet = below(10);
        int thrush = below(21);
        int before = 1 + below(10);
        land.add(x -> x.set(0, wet));
        land.add(x -> x.set(1, thrush));
        land.add(x -> x.go(before));
        int common = below(81);
        for (int s = 2 + below(4); s > 0; s--) {
            int kind = below(7);
            int cell = below(81);
            int law = below(4);
            int gate = below(2) == 0 ? common : below(81);
            int price = below(6);
            snails.add(x -> x.change(Check.add(x, kind, cell, law, gate), 4, price));
        }
        days = fresh ? 0 : below(12);
    }

    private static SnailLaws make(int set) {
        SnailLaws x = new SnailLaws();
        land.forEach(call -> call.accept(x));
        for (int s = 0; s < snails.size(); s++) {
            if ((set >> s & 1) == 1) {
                snails.get(s).accept(x);
            }
        }
        return days > 0 ? behind(x, days) : x;
    }

    private static SnailLaws make() {
        return make(ALL);
    }

    private static SnailLaws behind(SnailLaws x, int n) {
        for (int left = n; left > 0; left -= 40) {
            x.go(Math.min(left, 40));
        }
        return x;
    }

    /** Behind how many days of 0 to 100 something is so first, or NONE. */
    private static int first(SnailLaws x, Predicate<SnailLaws> so) {
        for (int n = 0; n < 100; n++) {
            if (so.test(x)) {
                return n;
            }
            x.go(1);
        }
        return so.test(x) ? 100 : NONE;
    }

    private static void due(String call, long got, long want) {
        Check.due(name + call, got, want);
    }

    private static int arrival(SnailLaws x, int snail) {
        int gate = x.of(snail, 3);
        return first(x, y -> y.of(snail, 1) == gate);
    }

    private static int[] farsTo(int goal) {
        SnailLaws x = make();
        int[] fars = new int[81];
        for (int cell = 0; cell < 81; cell++) {
            fars[cell] = x.far(cell, goal);
        }
        return fars;
    }

    private static void whatIs() {
        SnailLaws x = make();
        SnailLaws y = make();
        int[] realms = new int[9];
        int leaves = 0;
        int hedges = 0;
        for (int cell = 0; cell < 81; cell++) {
            realms[1 + y.land(cell, 2)]++;
            leaves += y.land(cell, 1);
            hedges += y.land(cell, 0);
        }
        for (int law = 0; law < 8; law++) {
            due("realm(" + law + ")", x.realm(law), realms[1 + law]);
        }
        due("now(2)", x.now(2), 81 - realms[0]);
        due("now(3)", x.now(3), leaves);
        due("count(2)", x.count(2), hedges);
        due("count(4)", x.count(4), 81 - realms[0]);
        due("repeals()", x.repeals(), 81 - realms[0]);
        int there = 0;
        for (int s = 0; s < snails.size(); s++) {
            due("of(" + s + ", 6)", x.of(s, 6), x.far(x.of(s, 1), x.of(s, 3)));
            there |= x.of(s, 1) == x.of(s, 3) ? 1 << s : 0;
        }
        due("now(5)", x.now(5), there);
    }

    private static void deeds() {
        int free = 0;
        for (int deed = 0; deed < 8; deed++) {
            SnailLaws x = make();
            int allowed = 0;
            for (int cell = 0; cell < 81; cell++) {
                int law = x.land(cell, 2);
                int banned = law < 0 ? 0 : x.bans(law, 0);
                if (law >= 0) {
                    x.bans(law, banned);
                }
                int may = 1 - (banned >> deed & 1);
                allowed += x.land(cell, 0) == 0 ? may : 0;
                due("may(" + cell + ", " + deed + ")", make().may(cell, deed), may);
            }
            due("where(" + deed + ")", x.where(deed), allowed);
            free |= allowed == 81 - x.count(2) ? 1 << deed : 0;
        }
        due("free()", make().free(), free);
        for (int i = 0; i < 8; i++) {
            int a = below(81);
            int b = below(81);
            int deed = below(8);
            SnailLaws x = make();
            for (int cell = 0; cell < 81; cell++) {
                if (x.may(cell, deed) == 0) {
                    x.hedge(cell, 1);
                }
            }
            int far = x.far(a, b);
            due("route(" + a + ", " + b + ", " + deed + ")", make().route(a, b, deed), far == 99 ? NONE : far);
        }
    }

    private static void daysAhead() {
        for (int i = 0; i < 6; i++) {
            int n = below(101);
            int cell = below(81);
            SnailLaws x = behind(make(), n);
            due("lawAt(" + cell + ", " + n + ")", make().lawAt(cell, n), x.land(cell, 2));
            for (int s = 0; s < snails.size(); s++) {
                due("ahead(" + s + ", " + n + ")", make().ahead(s, n), x.of(s, 1));
            }
            int few = below(41);
            int clashes = make().now(1);
            boolean none = behind(make(), few).now(1) == clashes;
            due("clash(" + few + ") is NONE", make().clash(few) == NONE ? 1 : 0, none ? 1 : 0);
        }
    }

    private static int reached(SnailLaws x, int law, int cell) {
        return first(x, y -> y.land(cell, 2) == law);
    }

    private static void laws() {
        for (int i = 0; i < 6; i++) {
            int bearer = below(snails.size());
            int law = i == 0 ? below(8) : make().of(bearer, 2);
            int other = make().of(below(snails.size()), 2);
            int cell = i == 1 ? below(81) : make().ahead(bearer, below(20));
            int n = reached(make(), law, cell);
            int m = reached(make(), other, cell);
            due("reaches(" + law + ", " + cell + ")", make().reaches(law, cell), n);
            due("lag(" + law + ", " + other + ", " + cell + ")", make().lag(law, other, cell),
                n < 0 || m < 0 ? NONE : n - m);
            int best = NONE;
            int fewest = 101;
            for (int wet = 0; wet < 10; wet++) {
                SnailLaws x = make();
                x.set(0, wet);
                int days = reached(x, law, cell);
                if (days >= 0 && days < fewest) {
                    fewest = days;
                    best = wet;
                }
            }
            due("wetFor(" + law + ", " + cell + ")", make().wetFor(law, cell), best);
        }
    }

    private static void arrivals() {
        for (int s = 0; s < snails.size(); s++) {
            due("comes(" + s + ")", make().comes(s), arrival(make(), s));
            int best = NONE;
            int fewest = 101;
            for (int kind = 0; kind < 7; kind++) {
                SnailLaws x = make();
                x.change(s, 0, kind);
                int days = arrival(x, s);
                if (days >= 0 && days < fewest) {
                    fewest = days;
                    best = kind;
                }
            }
            due("kindFor(" + s + ")", make().kindFor(s), best);
            for (int o = 0; o < snails.size(); o++) {
                int other = o;
                int one = s;
                int[] fars = farsTo(make().of(other, 3));
                if (one != other) {
                    due("overtakes(" + one + ", " + other + ")", make().overtakes(one, other),
                        first(make(), x -> fars[x.of(one, 1)] < fars[x.of(other, 1)]));
                }
            }
        }
    }

    private static void starts() {
        int snail = below(snails.size());
        int n = below(41);
        int gate = make().of(snail, 3);
        int[] fars = farsTo(gate);
        int farthest = NONE;
        for (int cell = 0; cell < 81; cell++) {
            SnailLaws x = make();
            x.change(snail, 1, cell);
            int days = fars[gate] == 99 || fars[cell] == 99 ? NONE : arrival(x, snail);
            if (days >= 0 && days <= n && (farthest == NONE || fars[cell] > fars[farthest])) {
                farthest = cell;
            }
        }
        due("farthest(" + snail + ", " + n + ")", make().farthest(snail, n), farthest);
        trail(snail, below(81), 1 + below(12));
    }

    /** A sheet tells here and there where a snail is behind so many days, if it is at a cell now. */
    private static void trail(int snail, int start, int numbers) {
        SnailLaws trail = make();
        trail.change(snail, 1, start);
        int[] told = new int[numbers];
        for (int i = 0; i < numbers; i++) {
            told[i] = below(3) > 0 ? -1 : trail.ahead(snail, i);
        }
        int fits = 0;
        int began = NONE;
        for (int cell = 80; cell >= 0; cell--) {
            SnailLaws x = make();
            x.change(snail, 1, cell);
            boolean so = true;
            for (int at : told) {
                so &= at == -1 || at == x.of(snail, 1);
                x.go(1);
            }
            fits += so ? 1 : 0;
            began = so ? cell : began;
        }
        SnailLaws x = make();
        x.sheet(3, 16, numbers);
        for (int i = 0; i < numbers; i++) {
            x.write(3, i, told[i]);
        }
        due("fits(3, " + snail + ")", x.fits(3, snail), fits);
        due("began(3, " + snail + ")", x.began(3, snail), began);
    }

    /** Of a fresh republic, which can be made with some of its snails. */
    private static void releases() {
        for (int i = 0; i < 6; i++) {
            int bearer = below(snails.size());
            int law = i == 0 ? below(8) : make().of(bearer, 2);
            int n = below(41);
            int cell = make().ahead(bearer, i % 2 == 0 ? n : below(n + 1));
            int best = NONE;
            int least = NONE;
            for (int set = 0; set < 1 << snails.size(); set++) {
                SnailLaws x = behind(make(set), n);
                int price = 0;
                for (int s = 0; s < Integer.bitCount(set); s++) {
                    price += x.of(s, 4);
                }
                if (x.land(cell, 2) == law && (best == NONE || price < least)) {
                    best = set;
                    least = price;
                }
            }
            String asked = "(" + law + ", " + cell + ", " + n + ")";
            due("release" + asked, make().release(law, cell, n), best);
            due("costs" + asked, make().costs(law, cell, n), least);
        }
    }

    private static void thrushes() {
        int n = 1 + below(20);
        int z = below(1 << 20) << 12 | below(1 << 12);
        SnailLaws x = make();
        SnailLaws y = make();
        int thrush = y.set(1, 0);
        x.seed(z);
        int often = 0;
        for (int d = 0; d < n; d++) {
            for (int s = 0; s < snails.size(); s++) {
                z = z * 1103515245 + 12345;
                if ((z >>> 8) % 20 < thrush) {
                    y.change(s, 1, 0);
                    often++;
                }
            }
            y.go(1);
        }
        due("thrushes(" + n + ")", x.thrushes(n), often);
        due("count(6)", x.count(6), z);
        due("now(0)", x.now(0), y.now(0));
        due("now(1)", x.now(1), y.now(1));
        for (int s = 0; s < snails.size(); s++) {
            due("of(" + s + ", 1)", x.of(s, 1), y.of(s, 1));
        }
        for (int cell = 0; cell < 81; cell++) {
            due("land(" + cell + ", 2)", x.land(cell, 2), y.land(cell, 2));
        }
    }

    private static void odds() {
        name = "";
        for (int thrush = 0; thrush <= 20; thrush++) {
            for (int n = 0; n <= 14; n++) {
                SnailLaws x = new SnailLaws();
                x.set(1, thrush);
                BigInteger above = BigInteger.valueOf(20 - thrush).pow(n);
                BigInteger below = BigInteger.valueOf(20).pow(n);
                BigInteger common = above.gcd(below);
                due("alone(" + n + ", 0) by " + thrush, x.alone(n, 0), above.divide(common).longValueExact());
                due("alone(" + n + ", 1) by " + thrush, x.alone(n, 1), below.divide(common).longValueExact());
            }
        }
    }

    public static void main(String[] args) {
        for (int i = 0; i < REPUBLICS; i++) {
            drawRepublic(i, i % 3 == 0);
            whatIs();
            deeds();
            daysAhead();
            laws();
            arrivals();
            starts();
            thrushes();
            if (days == 0) {
                releases();
            }
        }
        odds();
        Check.end("OtherwiseTest");
    }
}
