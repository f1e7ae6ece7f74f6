import java.util.ArrayList;
import java.util.Arrays;
import java.util.List;
import java.util.TreeMap;
import java.util.function.IntPredicate;
import java.util.function.Predicate;
import java.util.regex.Matcher;
import java.util.regex.Pattern;

/** The document once more, written without regard to speed or to LANGUAGE.md, to compare with. */
final class Model {
    static final int LOW = -1000001;
    static final int BEYOND = LOW, FULL = LOW - 1, KIND = LOW - 2, NONE = LOW - 3, STATE = LOW - 4,
        MISSING = LOW - 5, SIZE = LOW - 6;

    @SuppressWarnings("serial")
    static final class Finding extends RuntimeException {
        final int number;

        Finding(int number) {
            super(null, null, false, false);
            this.number = number;
        }
    }

    static final class Snail {
        int kind, at, law, gate = 80, price = 1;

        Snail same() {
            Snail s = new Snail();
            s.kind = kind;
            s.at = at;
            s.law = law;
            s.gate = gate;
            s.price = price;
            return s;
        }

        boolean is(String name) {
            for (String k = NAMES.get(kind); !k.isEmpty(); k = ABOVE.get(NAMES.indexOf(k))) {
                if (k.equals(name)) {
                    return true;
                }
            }
            return false;
        }
    }

    static final List<String> NAMES =
        List.of("snail", "greedy", "slow", "sleepy", "elder", "borne", "glutton");
    static final List<String> ABOVE =
        List.of("", "snail", "snail", "slow", "sleepy", "snail", "greedy");

    static final class World {
        boolean[] hedge = new boolean[81];
        /** FAR to goals that were asked for; a new one whenever a hedge changes. */
        int[][] fars = new int[81][];
        int[] greens = new int[81];
        Integer[] law = new Integer[81];
        int[] bans = new int[8];
        int wet = 5, thrush = 1, day, clashes, z = 1;
        List<Snail> snails = new ArrayList<>();
        int[] spots = new int[10];
        TreeMap<Integer, Integer> clashAt = new TreeMap<>();

        World() {
            Arrays.fill(spots, -1);
        }

        World same() {
            World w = new World();
            w.hedge = hedge.clone();
            w.fars = fars;
            w.greens = greens.clone();
            w.law = law.clone();
            w.bans = bans.clone();
            w.wet = wet;
            w.thrush = thrush;
            w.day = day;
            w.clashes = clashes;
            w.z = z;
            w.spots = spots.clone();
            for (Snail s : snails) {
                w.snails.add(s.same());
            }
            return w;
        }

        /** Fewest steps by letting ever longer ways in until nothing gets shorter. */
        int[] farTo(int goal, IntPredicate open) {
            int[] far = new int[81];
            Arrays.fill(far, 99);
            if (!open.test(goal)) {
                return far;
            }
            far[goal] = 0;
            for (boolean again = true; again;) {
                again = false;
                for (int c = 0; c < 81; c++) {
                    for (int b : BESIDE.get(c)) {
                        if (open.test(c) && open.test(b) && far[b] + 1 < far[c]) {
                            far[c] = far[b] + 1;
                            again = true;
                        }
                    }
                }
            }
            return far;
        }

        int[] farTo(int goal) {
            if (fars[goal] == null) {
                fars[goal] = farTo(goal, c -> !hedge[c]);
            }
            return fars[goal];
        }

        void setHedge(int c, boolean is) {
            hedge[c] = is;
            fars = new int[81][];
        }

        int moves(Snail s) {
            int snail = wet / 5 + 1;
            int greedy = greens[s.at] > 0 ? 0 : snail;
            int slow = snail - 1;
            int sleepy = day % 2 == 0 ? slow : 0;
            int elder = day % 5 == 0 ? sleepy + 1 : sleepy;
            return new int[] {snail, greedy, slow, sleepy, elder, 3, 2 * greedy}[s.kind];
        }

        void under(int cell, int l) {
            if (law[cell] != null && law[cell] != l) {
                clashes = Math.min(99999, clashes + 1);
                clashAt.merge(cell, 1, Integer::sum);
            }
            law[cell] = l;
        }

        void day() {
            for (Snail s : snails) {
                int moves = moves(s);
                int[] far = farTo(s.gate);
                under(s.at, s.law);
                for (int m = 0; m < moves; m++) {
                    if (hedge[s.at]) {
                        continue;
                    }
                    for (int b : BESIDE.get(s.at)) {
                        if (far[b] < far[s.at]) {
                            s.at = b;
                            under(b, s.law);
                            break;
                        }
                    }
                }
                if (s.is("greedy") && greens[s.at] > 0) {
                    greens[s.at]--;
                }
            }
            day++;
        }

        World behind(int n) {
            World w = same();
            for (int i = 0; i < n; i++) {
                w.day();
            }
            return w;
        }

        /** The fewest of 0 to 100 days behind which something is so, or null. */
        Integer first(Predicate<World> so) {
            World w = same();
            for (int n = 0; n <= 100; n++) {
                if (so.test(w)) {
                    return n;
                }
                w.day();
            }
            return null;
        }

        boolean inForce(int l, int cell) {
            return law[cell] != null && law[cell] == l;
        }

        boolean lawful(int cell, int deed) {
            return law[cell] == null || (bans[law[cell]] & 1 << deed) == 0;
        }
    }

    static final List<List<Integer>> BESIDE = new ArrayList<>();

    static {
        for (int c = 0; c < 81; c++) {
            BESIDE.add(beside(c));
        }
    }

    static List<Integer> beside(int c) {
        List<Integer> out = new ArrayList<>();
        int row = c / 9;
        int column = c % 9;
        int[][] sides = {{-1, 0}, {0, 1}, {1, 0}, {0, -1}};
        for (int[] side : sides) {
            int r = row + side[0];
            int k = column + side[1];
            if (r >= 0 && r < 9 && k >= 0 && k < 9) {
                out.add(r * 9 + k);
            }
        }
        return out;
    }

    World w = new World();
    World kept = null;
    StringBuilder tape = new StringBuilder();
    int[] bits = new int[4];
    long[][] rows = new long[4][];
    int[] findings = new int[7];

    /** Counts the finding that an act answers. */
    int found(Finding f) {
        findings[LOW - f.number]++;
        return f.number;
    }

    static void need(boolean holds, int otherwise) {
        if (!holds) {
            throw new Finding(otherwise);
        }
    }

    static void range(int v, int least, int most) {
        need(v >= least && v <= most, BEYOND);
    }

    void cell(int c) {
        range(c, 0, 80);
    }

    Snail snailOf(int s) {
        range(s, 0, w.snails.size() - 1);
        return w.snails.get(s);
    }

    long[] rowOf(int s) {
        range(s, 0, 3);
        need(rows[s] != null, MISSING);
        return rows[s];
    }

    static int orNone(Integer n) {
        need(n != null, NONE);
        return n;
    }

    int hedge(int c, int is) {
        cell(c);
        range(is, 0, 1);
        boolean is1 = is == 1;
        boolean fresh = w.hedge[c] != is1;
        w.setHedge(c, is1);
        return fresh ? 1 : 0;
    }

    int greens(int c, int v) {
        cell(c);
        range(v, 0, 9);
        int was = w.greens[c];
        w.greens[c] = v;
        return was;
    }

    int land(int c, int what) {
        cell(c);
        range(what, 0, 2);
        return what == 0 ? (w.hedge[c] ? 1 : 0) : what == 1 ? w.greens[c] : w.law[c] == null ? -1 : w.law[c];
    }

    int far(int a, int b) {
        cell(a);
        cell(b);
        return w.farTo(a)[b];
    }

    int snail(int kind, int c) {
        range(kind, 0, 6);
        cell(c);
        need(w.snails.size() < 8, FULL);
        Snail s = new Snail();
        s.kind = kind;
        s.at = c;
        w.snails.add(s);
        return w.snails.size() - 1;
    }

    int of(int snail, int what) {
        Snail s = snailOf(snail);
        range(what, 0, 6);
        return new int[] {s.kind, s.at, s.law, s.gate, s.price, w.moves(s), w.farTo(s.gate)[s.at]}[what];
    }

    int change(int snail, int what, int v) {
        Snail s = snailOf(snail);
        range(what, 0, 4);
        range(v, 0, new int[] {6, 80, 7, 80, 99}[what]);
        int was = of(snail, what);
        switch (what) {
            case 0 -> s.kind = v;
            case 1 -> s.at = v;
            case 2 -> s.law = v;
            case 3 -> s.gate = v;
            default -> s.price = v;
        }
        return was;
    }

    int bans(int law, int set) {
        range(law, 0, 7);
        range(set, 0, 255);
        int was = w.bans[law];
        w.bans[law] = set;
        return was;
    }

    int set(int what, int v) {
        range(what, 0, 1);
        range(v, 0, what == 0 ? 9 : 20);
        int was = what == 0 ? w.wet : w.thrush;
        if (what == 0) {
            w.wet = v;
        } else {
            w.thrush = v;
        }
        return was;
    }

    int go(int n) {
        range(n, 1, 40);
        need(w.day + n <= 99999, STATE);
        for (int i = 0; i < n; i++) {
            w.day();
        }
        return w.clashes;
    }

    int withLaw() {
        return (int) Arrays.stream(w.law).filter(l -> l != null).count();
    }

    int now(int what) {
        range(what, 0, 5);
        int set = 0;
        for (int s = 0; s < w.snails.size(); s++) {
            if (w.snails.get(s).at == w.snails.get(s).gate) {
                set += 1 << s;
            }
        }
        return new int[] {w.day, w.clashes, withLaw(), Arrays.stream(w.greens).sum(), w.wet, set}[what];
    }

    int realm(int law) {
        range(law, 0, 7);
        int n = 0;
        for (int c = 0; c < 81; c++) {
            n += w.inForce(law, c) ? 1 : 0;
        }
        return n;
    }

    int repeals() {
        int n = withLaw();
        Arrays.fill(w.law, null);
        return n;
    }

    int may(int c, int deed) {
        cell(c);
        range(deed, 0, 7);
        return w.lawful(c, deed) ? 1 : 0;
    }

    int where(int deed) {
        range(deed, 0, 7);
        int n = 0;
        for (int c = 0; c < 81; c++) {
            n += !w.hedge[c] && w.lawful(c, deed) ? 1 : 0;
        }
        return n;
    }

    int route(int a, int b, int deed) {
        cell(a);
        cell(b);
        range(deed, 0, 7);
        int steps = w.farTo(a, c -> !w.hedge[c] && w.lawful(c, deed))[b];
        need(steps < 99, NONE);
        return steps;
    }

    int free() {
        int set = 0;
        for (int deed = 0; deed < 8; deed++) {
            boolean all = true;
            for (int c = 0; c < 81; c++) {
                all &= w.hedge[c] || w.lawful(c, deed);
            }
            set += all ? 1 << deed : 0;
        }
        return set;
    }

    int ahead(int snail, int n) {
        snailOf(snail);
        range(n, 0, 100);
        return w.behind(n).snails.get(snail).at;
    }

    int lawAt(int c, int n) {
        cell(c);
        range(n, 0, 100);
        Integer law = w.behind(n).law[c];
        return law == null ? -1 : law;
    }

    int reaches(int law, int c) {
        range(law, 0, 7);
        cell(c);
        return orNone(w.first(v -> v.inForce(law, c)));
    }

    int wetFor(int law, int c) {
        range(law, 0, 7);
        cell(c);
        TreeMap<Integer, Integer> wets = new TreeMap<>();
        for (int wet = 0; wet < 10; wet++) {
            World v = w.same();
            v.wet = wet;
            Integer n = v.first(u -> u.inForce(law, c));
            if (n != null) {
                wets.putIfAbsent(n, wet);
            }
        }
        need(!wets.isEmpty(), NONE);
        return wets.firstEntry().getValue();
    }

    static boolean home(World v, int snail) {
        return v.snails.get(snail).at == v.snails.get(snail).gate;
    }

    int comes(int snail) {
        snailOf(snail);
        return orNone(w.first(v -> home(v, snail)));
    }

    int kindFor(int snail) {
        snailOf(snail);
        TreeMap<Integer, Integer> kinds = new TreeMap<>();
        for (int kind = 0; kind < 7; kind++) {
            World v = w.same();
            v.snails.get(snail).kind = kind;
            Integer n = v.first(u -> home(u, snail));
            if (n != null) {
                kinds.putIfAbsent(n, kind);
            }
        }
        need(!kinds.isEmpty(), NONE);
        return kinds.firstEntry().getValue();
    }

    int overtakes(int a, int b) {
        snailOf(a);
        snailOf(b);
        need(a != b, BEYOND);
        int[] far = w.farTo(w.snails.get(b).gate);
        return orNone(w.first(v -> far[v.snails.get(a).at] < far[v.snails.get(b).at]));
    }

    int lag(int law, int other, int c) {
        range(law, 0, 7);
        range(other, 0, 7);
        cell(c);
        return orNone(w.first(v -> v.inForce(law, c))) - orNone(w.first(v -> v.inForce(other, c)));
    }

    int clash(int n) {
        range(n, 0, 40);
        int best = -1;
        int most = 0;
        for (var e : w.behind(n).clashAt.entrySet()) {
            if (e.getValue() > most) {
                best = e.getKey();
                most = e.getValue();
            }
        }
        need(best >= 0, NONE);
        return best;
    }

    /** Price and set of the cheapest release. */
    int[] cheapest(int law, int c, int n) {
        range(law, 0, 7);
        cell(c);
        range(n, 0, 40);
        int[] best = null;
        for (int set = 0; set < 1 << w.snails.size(); set++) {
            World v = w.same();
            v.snails.clear();
            int price = 0;
            for (int s = 0; s < w.snails.size(); s++) {
                if ((set & 1 << s) != 0) {
                    v.snails.add(w.snails.get(s).same());
                    price += w.snails.get(s).price;
                }
            }
            if ((best == null || price < best[0]) && v.behind(n).inForce(law, c)) {
                best = new int[] {price, set};
            }
        }
        need(best != null, NONE);
        return best;
    }

    int release(int law, int c, int n) {
        return cheapest(law, c, n)[1];
    }

    int costs(int law, int c, int n) {
        return cheapest(law, c, n)[0];
    }

    int farthest(int snail, int n) {
        Snail s = snailOf(snail);
        range(n, 0, 40);
        need(!w.hedge[s.gate], NONE);
        int[] far = w.farTo(s.gate);
        int best = -1;
        for (int c = 0; c < 81; c++) {
            World v = w.same();
            v.snails.get(snail).at = c;
            if (!w.hedge[c] && (best < 0 || far[c] > far[best])) {
                Integer days = v.first(u -> home(u, snail));
                if (days != null && days <= n) {
                    best = c;
                }
            }
        }
        need(best >= 0, NONE);
        return best;
    }

    List<Integer> starts(int s, int snail) {
        long[] row = rowOf(s);
        snailOf(snail);
        List<Integer> out = new ArrayList<>();
        for (int c = 0; c < 81; c++) {
            World v = w.same();
            v.snails.get(snail).at = c;
            boolean fits = true;
            for (long told : row) {
                fits &= told == -1 || told == v.snails.get(snail).at;
                if (!fits) {
                    break;
                }
                v.day();
            }
            if (fits) {
                out.add(c);
            }
        }
        return out;
    }

    int fits(int s, int snail) {
        return starts(s, snail).size();
    }

    int began(int s, int snail) {
        List<Integer> starts = starts(s, snail);
        need(!starts.isEmpty(), NONE);
        return starts.get(0);
    }

    int thrushes(int n) {
        range(n, 1, 20);
        need(w.day + n <= 99999, STATE);
        int often = 0;
        for (int i = 0; i < n; i++) {
            for (Snail s : w.snails) {
                w.z = w.z * 1103515245 + 12345;
                if ((w.z >>> 8) % 20 < w.thrush) {
                    s.at = 0;
                    often++;
                }
            }
            w.day();
        }
        return often;
    }

    long alone(int n, int what) {
        range(n, 0, 14);
        range(what, 0, 1);
        java.math.BigInteger up = java.math.BigInteger.valueOf(20 - w.thrush).pow(n);
        java.math.BigInteger down = java.math.BigInteger.valueOf(20).pow(n);
        return (what == 0 ? up : down).divide(up.gcd(down)).longValueExact();
    }

    int seed(int v) {
        int was = w.z;
        w.z = v;
        return was;
    }

    int feed(int bytes, int n) {
        range(n, 1, 4);
        need(tape.length() + n <= 120, FULL);
        for (int i = n - 1; i >= 0; i--) {
            tape.append((char) (bytes >>> 8 * i & 255));
        }
        return tape.length();
    }

    int wipe() {
        int had = tape.length();
        tape.setLength(0);
        return had;
    }

    record Token(int place, String text) {
        boolean isNumber(int most) {
            return text.matches("[0-9]+") && new java.math.BigInteger(text)
                .compareTo(java.math.BigInteger.valueOf(most)) <= 0;
        }
    }

    List<Token> tokens;

    Token next(Predicate<Token> can) {
        if (tokens.isEmpty() || !can.test(tokens.get(0))) {
            throw new IllegalStateException();
        }
        return tokens.remove(0);
    }

    boolean stands(String word) {
        return !tokens.isEmpty() && tokens.get(0).text.equals(word);
    }

    int number(int most) {
        return Integer.parseInt(next(t -> t.isNumber(most)).text.replaceFirst("^0+(?=.)", ""));
    }

    int part(String word, int most, int without) {
        if (!stands(word)) {
            return without;
        }
        tokens.remove(0);
        return number(most);
    }

    void item(World v) {
        List<String> others = List.of("hedge", "greens", "bans", "wet", "thrush");
        String word = next(t -> others.contains(t.text)
            || NAMES.contains(t.text) && v.snails.size() < 8).text;
        switch (word) {
            case "hedge" -> v.setHedge(number(80), true);
            case "greens" -> {
                int c = number(80);
                v.greens[c] = number(9);
            }
            case "bans" -> {
                int l = number(7);
                v.bans[l] = number(255);
            }
            case "wet" -> v.wet = number(9);
            case "thrush" -> v.thrush = number(20);
            default -> {
                Snail s = new Snail();
                s.kind = NAMES.indexOf(word);
                s.at = part("at", 80, 0);
                s.law = part("law", 7, 0);
                s.gate = part("gate", 80, 80);
                s.price = part("price", 99, 1);
                v.snails.add(s);
            }
        }
    }

    int text() {
        String all = tape.toString();
        tape.setLength(0);
        tokens = new ArrayList<>();
        Matcher m = Pattern.compile("[a-z]+|[0-9]+|[^ ]", Pattern.DOTALL).matcher(all);
        while (m.find()) {
            tokens.add(new Token(m.start(), m.group()));
        }
        World v = w.same();
        try {
            int items = 0;
            do {
                item(v);
                items++;
            } while (!tokens.isEmpty() && next(t -> t.text.equals(";")) != null);
            w = v;
            return items;
        } catch (IllegalStateException fault) {
            return -1 - (tokens.isEmpty() ? all.length() : tokens.get(0).place);
        }
    }

    int hold(int spot, int snail) {
        range(spot, 0, 9);
        range(snail, -1, w.snails.size() - 1);
        w.spots[spot] = snail;
        return 1;
    }

    int as(int spot, int kind) {
        range(spot, 0, 9);
        range(kind, 0, 6);
        need(w.spots[spot] >= 0, MISSING);
        need(w.snails.get(w.spots[spot]).is(NAMES.get(kind)), KIND);
        return w.spots[spot];
    }

    int sheet(int s, int b, int n) {
        range(s, 0, 3);
        need(List.of(0, 8, 16, 32).contains(b), BEYOND);
        need(n >= 0, SIZE);
        need(n <= 40, BEYOND);
        bits[s] = b;
        rows[s] = b == 0 ? null : new long[n];
        return b == 0 ? 0 : n;
    }

    int write(int s, int i, int v) {
        long[] row = rowOf(s);
        range(i, 0, row.length - 1);
        row[i] = bits[s] == 8 ? (byte) v : bits[s] == 16 ? (short) v : v;
        return 1;
    }

    int copy(int s, int from, int t, int to, int n) {
        range(s, 0, 3);
        range(t, 0, 3);
        need(rows[s] != null && rows[t] != null, MISSING);
        need(bits[s] == bits[t], KIND);
        need(from >= 0 && to >= 0 && n >= 0, BEYOND);
        need((long) from + n <= rows[s].length && (long) to + n <= rows[t].length, BEYOND);
        long[] were = rows[s].clone();
        for (int i = 0; i < n; i++) {
            rows[t][to + i] = were[from + i];
        }
        return n;
    }

    int load(int s) {
        int came = 0;
        for (long v : rowOf(s)) {
            if (v < 0 || v > 9) {
                break;
            }
            w.greens[came++] = (int) v;
        }
        return came;
    }

    int judge(int s) {
        long[] row = rowOf(s);
        for (int c = 0; c < row.length; c++) {
            if (row[c] != (w.law[c] == null ? -1 : w.law[c])) {
                return 1 + c;
            }
        }
        return 0;
    }

    int image() {
        kept = w.same();
        return 1;
    }

    int undo() {
        need(kept != null, NONE);
        w = kept.same();
        return w.day;
    }

    int tear() {
        boolean was = kept != null;
        kept = null;
        return was ? 1 : 0;
    }

    int count(int what) {
        range(what, 0, 7);
        int hedges = 0;
        for (boolean h : w.hedge) {
            hedges += h ? 1 : 0;
        }
        int held = (int) Arrays.stream(w.spots).filter(s -> s >= 0).count();
        return new int[] {w.day, w.snails.size(), hedges, w.clashes, withLaw(), tape.length(), w.z, held}[what];
    }

    int status(int which) {
        range(which, -1, 6);
        return which < 0 ? Arrays.stream(findings).sum() : findings[which];
    }
}
