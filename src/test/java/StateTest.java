import java.util.function.Consumer;

/**
 * STATE of promises 11 and 33: DAY would be above 99999. The 512 calls that the document tells of
 * bring 20480 DAYS at most; what is answered behind them is free, and this class goes on as before.
 */
final class StateTest extends Edges {
    private static Consumer<SnailLaws> toDay(int day) {
        return x -> {
            for (int left = day - x.now(0); left > 0; left = day - x.now(0)) {
                x.go(Math.min(left, 40));
            }
        };
    }

    private static long dayBehind(int day, Act act) {
        SnailLaws x = laden();
        toDay(day).accept(x);
        act.on(x);
        return x.now(0);
    }

    public static void main(String[] args) {
        test(11, "go: up to DAY 99999, the most", () -> {
            due("now(0)", dayBehind(99980, x -> x.go(19)), 99999);
            due("now(0)", dayBehind(99959, x -> x.go(40)), 99999);
            due("now(0)", dayBehind(99998, x -> x.go(1)), 99999);
        });
        test(11, "go: up to DAY 100000 is STATE, and nothing else changes",
            () -> refused(STATE, toDay(99980), x -> x.go(20)));
        test(11, "go: 1 from DAY 99999 is STATE", () -> refused(STATE, toDay(99999), x -> x.go(1)));
        test(11, "go: 40 from DAY 99960 is STATE", () -> refused(STATE, toDay(99960), x -> x.go(40)));
        test(11, "go: BEYOND is asked before STATE", () -> {
            refused(BEYOND, toDay(99999), x -> x.go(41));
            refused(BEYOND, toDay(99999), x -> x.go(GREATEST));
        });
        test(33, "thrushes: up to DAY 99999, the most", () -> {
            due("now(0)", dayBehind(99980, x -> x.thrushes(19)), 99999);
            due("now(0)", dayBehind(99979, x -> x.thrushes(20)), 99999);
        });
        test(33, "thrushes: up to DAY 100000 is STATE, and nothing else changes",
            () -> refused(STATE, toDay(99980), x -> x.thrushes(20)));
        test(33, "thrushes: 1 from DAY 99999 is STATE", () -> refused(STATE, toDay(99999), x -> x.thrushes(1)));
        test(33, "thrushes: BEYOND is asked before STATE", () -> {
            refused(BEYOND, toDay(99999), x -> x.thrushes(21));
            refused(BEYOND, toDay(99999), x -> x.thrushes(GREATEST));
        });
        Check.end("StateTest");
    }
}
