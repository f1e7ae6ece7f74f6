import java.lang.reflect.InvocationTargetException;
import java.lang.reflect.Method;
import java.util.ArrayList;
import java.util.Arrays;
import java.util.Comparator;
import java.util.List;

/** Long runs of calls by a fixed draw, each compared with the answer of the model. */
final class FuzzTest {
    private static final int RUNS = 300;
    /** What an object is asked at most, at the end by askAll() and by one step of a run. */
    private static final int CALLS = 512;
    private static final int LAST_CALLS = 9 * 3 + 81 + 8 * 2;
    private static final int STEP_CALLS = 60;
    private static final String[] WORDS = {"snail", "greedy", "slow", "sleepy", "elder", "borne",
        "glutton", "at", "law", "gate", "price", "hedge", "greens", "bans", "wet", "thrush", "snails"};

    private long draw;
    private final List<Method> real = new ArrayList<>();
    private SnailLaws x;
    private Model model;
    private String run;
    private int calls;

    private FuzzTest(long seed) {
        draw = seed;
        for (Method m : SnailLaws.class.getDeclaredMethods()) {
            if (java.lang.reflect.Modifier.isPublic(m.getModifiers())) {
                real.add(m);
            }
        }
        real.sort(Comparator.comparing(Method::getName));
    }

    private int below(int n) {
        draw = draw * 6364136223846793005L + 1442695040888963407L;
        return (int) ((draw >>> 33) % n);
    }

    private boolean odds(int percent) {
        return below(100) < percent;
    }

    private int argument(int most) {
        if (odds(4)) {
            int[] odd = {-1, -2, most + 1, most + 2, Integer.MIN_VALUE, Integer.MAX_VALUE, most, 0};
            return odd[below(odd.length)];
        }
        return below(most + 1);
    }

    /** The greatest of each argument that a call takes (others come too, but seldom). */
    private int[] mosts(String name) {
        int snails = Math.max(0, model.w.snails.size() - 1);
        switch (name) {
            case "hedge": return new int[] {80, 1};
            case "greens": return new int[] {80, 9};
            case "land": return new int[] {80, 2};
            case "far": return new int[] {80, 80};
            case "snail": return new int[] {6, 80};
            case "of": return new int[] {snails, 6};
            case "change": return new int[] {snails, 4, new int[] {6, 80, 7, 80, 99}[below(5)]};
            case "bans": return new int[] {7, 255};
            case "set": return new int[] {1, odds(50) ? 9 : 20};
            case "go": return new int[] {odds(80) ? 5 : 40};
            case "now": return new int[] {5};
            case "realm": case "where": return new int[] {7};
            case "may": return new int[] {80, 7};
            case "route": return new int[] {80, 80, 7};
            case "ahead": return new int[] {snails, 100};
            case "lawAt": return new int[] {80, 100};
            case "reaches": case "wetFor": return new int[] {7, 80};
            case "comes": case "kindFor": return new int[] {snails};
            case "overtakes": return new int[] {snails, snails};
            case "lag": return new int[] {7, 7, 80};
            case "clash": return new int[] {40};
            case "release": case "costs": return new int[] {7, 80, 40};
            case "farthest": return new int[] {snails, 40};
            case "fits": case "began": return new int[] {3, snails};
            case "thrushes": return new int[] {20};
            case "alone": return new int[] {14, 1};
            case "seed": return new int[] {Integer.MAX_VALUE - 2};
            case "feed": return new int[] {Integer.MAX_VALUE - 2, 4};
            case "hold": return new int[] {9, snails};
            case "as": return new int[] {9, 6};
            case "sheet": return new int[] {3, 3, 40};
            case "write": return new int[] {3, 39, 80};
            case "copy": return new int[] {3, 20, 3, 20, 20};
            case "load": case "judge": return new int[] {3};
            case "count": return new int[] {7};
            case "status": return new int[] {6};
            default: return new int[] {};
        }
    }

    private int[] arguments(String name) {
        int[] args = mosts(name);
        for (int i = 0; i < args.length; i++) {
            args[i] = argument(args[i]);
        }
        if (name.equals("sheet") && args[1] >= 0 && args[1] <= 3) {
            args[1] = new int[] {8, 16, 32, odds(20) ? 0 : 8}[args[1]];
        }
        if (name.equals("write") && odds(40)) {
            args[2] = odds(70) ? -1 : below(70000) - 35000;
        }
        return args;
    }

    private Object answerOf(Object on, Method m, int[] args) throws ReflectiveOperationException {
        Object[] boxed = new Object[args.length];
        for (int i = 0; i < args.length; i++) {
            boxed[i] = args[i];
        }
        return m.invoke(on, boxed);
    }

    private void ask(String name, int... args) throws ReflectiveOperationException {
        calls++;
        Method m = real.stream().filter(r -> r.getName().equals(name)).findFirst().orElseThrow();
        Method twin = Model.class.getDeclaredMethod(name, m.getParameterTypes());
        long want;
        try {
            want = ((Number) answerOf(model, twin, args)).longValue();
        } catch (InvocationTargetException e) {
            if (!(e.getCause() instanceof Model.Finding)) {
                throw e;
            }
            want = model.found((Model.Finding) e.getCause());
        }
        long got = ((Number) answerOf(x, m, args)).longValue();
        Check.due(run + name + Arrays.toString(args), got, want);
    }

    private String number() {
        int sort = below(12);
        if (sort == 0) {
            return "" + below(1200);
        }
        return sort == 1 ? "00" + below(10) : sort < 6 ? "" + below(10) : "" + below(81);
    }

    private String part(String word, int percent) {
        return odds(percent) ? word + " " + number() + " " : "";
    }

    private String item() {
        String word = WORDS[odds(97) ? new int[] {0, 1, 2, 3, 4, 5, 6, 11, 12, 13, 14, 15}[below(12)]
            : below(WORDS.length)];
        switch (word) {
            case "hedge": return "hedge " + number();
            case "greens": return "greens " + number() + " " + below(10);
            case "bans": return "bans " + below(8) + " " + below(256);
            case "wet": return "wet " + below(10);
            case "thrush": return "thrush" + below(21);
            default: return word + " " + part("at", 70) + part("law", 60) + part("gate", 60) + part("price", 40);
        }
    }

    private void readText() throws ReflectiveOperationException {
        StringBuilder text = new StringBuilder(item());
        for (int more = below(5); more > 0; more--) {
            text.append(odds(50) ? ";" : " ; ").append(item());
        }
        if (odds(30)) {
            text.setCharAt(below(text.length()), (char) below(256));
        }
        if (odds(20)) {
            text.setLength(below(text.length() + 1));
        }
        if (odds(80)) {
            ask("wipe");
        }
        for (int i = 0; i + 4 <= text.length(); i += 4) {
            ask("feed", text.charAt(i) << 24 | text.charAt(i + 1) << 16 | text.charAt(i + 2) << 8 | text.charAt(i + 3), 4);
        }
        for (int i = text.length() / 4 * 4; i < text.length(); i++) {
            ask("feed", text.charAt(i) | below(1 << 20) << 8, 1);
        }
        ask("text");
    }

    /** A sheet that tells where a snail truly will be, with holes and now and then a slip. */
    private void askTrail() throws ReflectiveOperationException {
        if (model.w.snails.isEmpty()) {
            return;
        }
        int snail = below(model.w.snails.size());
        int n = 1 + below(6);
        int start = below(81);
        ask("sheet", 2, 8, n);
        Model.World w = model.w.same();
        w.snails.get(snail).at = start;
        for (int i = 0; i < n; i++) {
            int at = w.behind(i).snails.get(snail).at;
            ask("write", 2, i, odds(50) ? -1 : odds(95) ? at : below(81));
        }
        ask("fits", 2, snail);
        ask("began", 2, snail);
    }

    private void askAll() throws ReflectiveOperationException {
        for (int what = -1; what < 8; what++) {
            ask("count", what);
            ask("now", what);
            ask("status", what);
        }
        for (int c = 0; c < 81; c++) {
            ask("land", c, c % 2 + 1);
        }
        for (int s = 0; s < 8; s++) {
            ask("of", s, 1);
            ask("of", s, 4 + s % 3);
        }
    }

    /** Ever so often the land is a maze, so that FAR and MOVES are of use. */
    private void layHedges(int percent) throws ReflectiveOperationException {
        for (int c = 0; c < 81; c++) {
            if (odds(percent)) {
                ask("hedge", c, 1);
            }
            if (odds(15)) {
                ask("greens", c, below(10));
            }
        }
    }

    private void go(int number) throws ReflectiveOperationException {
        x = new SnailLaws();
        model = new Model();
        run = "run " + number + ": ";
        calls = 0;
        boolean crowded = odds(70);
        if (odds(70)) {
            layHedges(below(40));
        }
        for (int s = crowded ? 3 + below(5) : 0; s > 0; s--) {
            ask("snail", below(7), below(81));
            ask("change", model.w.snails.size() - 1, 2, below(4));
            ask("change", model.w.snails.size() - 1, 3, below(81));
            ask("change", model.w.snails.size() - 1, 4, below(6));
        }
        while (calls < CALLS - LAST_CALLS - STEP_CALLS) {
            int sort = below(40);
            if (sort == 0) {
                readText();
            } else if (sort == 1) {
                askTrail();
            } else {
                Method m = real.get(below(real.size()));
                if (m.getName().equals("snail") && odds(60)) {
                    continue;
                }
                ask(m.getName(), arguments(m.getName()));
            }
        }
        askAll();
        Check.due(run + "calls are too many", calls > CALLS ? calls : 0, 0);
    }

    public static void main(String[] args) throws ReflectiveOperationException {
        int runs = args.length > 0 ? Integer.parseInt(args[0]) : RUNS;
        FuzzTest fuzz = new FuzzTest(args.length > 1 ? Long.parseLong(args[1]) : 20261118);
        for (int i = 0; i < runs; i++) {
            fuzz.go(i);
        }
        Check.end("FuzzTest");
    }
}
