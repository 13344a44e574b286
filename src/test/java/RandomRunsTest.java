import java.util.Random;
import java.util.TreeMap;
import java.util.concurrent.Callable;

/** Runs of 512 calls drawn from fixed seeds: the class and the plain model answer alike. */
public final class RandomRunsTest {
    private static final int RUNS = 600;
    private static final int CALLS = 512;
    private static final int[] STEPS = {20, 1000, 12, 30, 6, 3, 100, 0, 1, 2, -4, 4000};
    private static final int[] FAR = {Integer.MIN_VALUE, Integer.MAX_VALUE, -10001, 10001, -2, -1, 1001};
    // Codes that answer or fail by the value of fact 0, one for each failure.
    private static final int[][] CODES = {
        {1, 0, 8, 0, 0, 5, 9, 0},
        {0, 12, 1, 0, 5, 0, 9, 0},
        {1, 0, 8, 3, 0, 5, 9, 0},
        {1, 0, 8, 15, 10, 0, 9, 0},
        {1, 0, 7, 0, 4, 0, 7, 0, 4, 0, 9, 0},
        {0, 1, 1, 0, 8, 0, 9, 0}};
    private static final TreeMap<String, Integer> SEEN = new TreeMap<>();

    private final Random random;
    private final RuleClasses x;
    private final PlainModel model;
    private final int run;
    private int calls = 0;
    private int editions = 0;
    private int handles = 0;

    private RandomRunsTest(int run) {
        this.run = run;
        random = new Random(run);
        int steps = run < STEPS.length * 2 ? STEPS[run % STEPS.length] : STEPS[run % 7];
        x = new RuleClasses(steps);
        model = new PlainModel(steps);
    }

    public static void main(String[] args) {
        for (int run = 0; run < RUNS; run++) {
            RandomRunsTest test = new RandomRunsTest(run);
            while (test.calls < CALLS) {
                test.call();
            }
        }
        everythingWasSeen();
        Check.end("RandomRunsTest");
    }

    /** Runs that never reach an answer prove nothing about it. */
    private static void everythingWasSeen() {
        String[] due = {"make 0", "make -1", "make -2", "make -3", "make -4", "make -5",
            "failed 0", "failed 1", "failed 2", "failed 3", "failed 4", "failed 5",
            "by answers", "by throws IllegalStateException", "by throws IllegalArgumentException",
            "compare more than 0", "otherwise more than 0", "same 1",
            "keep throws UnsupportedOperationException", "rule throws UnsupportedOperationException",
            "op throws UnsupportedOperationException", "op throws IllegalStateException",
            "make throws IllegalStateException", "handle throws IllegalStateException"};
        for (String what : due) {
            Check.is("seen: " + what, SEEN.getOrDefault(what, 0) > 20, true);
        }
    }

    private static void seen(String what) {
        SEEN.merge(what, 1, Integer::sum);
    }

    private static String told(Callable<Object> call) {
        try {
            return "" + call.call();
        } catch (Exception e) {
            return "throws " + e.getClass().getSimpleName();
        }
    }

    private String both(String name, Callable<Object> ours, Callable<Object> due) {
        // What later calls answer is free.
        calls++;
        if (calls > CALLS) {
            return "free";
        }
        String got = told(ours);
        String want = told(due);
        Check.is("run " + run + ": " + name + " answered " + got + ", due is " + want, got.equals(want), true);
        if (want.startsWith("throws")) {
            seen(name.substring(0, name.indexOf('(')) + " " + want);
        }
        return got;
    }

    /** A number of a range, now and then one at its edge or outside. */
    private int within(int least, int greatest) {
        int draw = random.nextInt(60);
        if (draw == 0) {
            return FAR[random.nextInt(FAR.length)];
        }
        if (draw < 3) {
            return draw == 1 ? greatest + 1 : least - 1;
        }
        if (draw < 6) {
            return draw < 4 ? greatest : least;
        }
        return least + random.nextInt(greatest - least + 1);
    }

    /** Few owners and kinds, so that editions meet. */
    private int owner() {
        return random.nextInt(4) > 0 ? random.nextInt(2) : within(0, 5);
    }

    private int kind() {
        return random.nextInt(4) > 0 ? 0 : within(0, 2);
    }

    private int edition() {
        return random.nextInt(3) > 0 && editions > 0 ? editions - 1 - random.nextInt(Math.min(3, editions))
                : within(0, Math.max(0, editions - 1));
    }

    private int near(int today) {
        return random.nextInt(8) > 0 ? Math.max(0, Math.min(1000, today - 3 + random.nextInt(6))) : within(0, 1000);
    }

    private int value() {
        return random.nextInt(3) > 0 ? random.nextInt(5) - 1 : within(-10000, 10000);
    }

    private void call() {
        int draw = random.nextInt(100);
        if (draw < 7) {
            rule();
        } else if (draw < 14) {
            op();
        } else if (draw < 26) {
            make();
        } else if (draw < 46) {
            ask();
        } else if (draw < 54) {
            fact();
        } else if (draw < 62) {
            handleOrBy();
        } else if (draw < 72) {
            comparing();
        } else {
            telling();
        }
    }

    private void rule() {
        int o = owner();
        int k = kind();
        int d = near(model.count(6));
        String got = both("rule(" + o + ", " + k + ", " + d + ")", () -> x.rule(o, k, d), () -> model.rule(o, k, d));
        if (!got.startsWith("throws")) {
            editions++;
            code(editions - 1);
        }
    }

    /** Codes that have a chance: some are put first, then anything, mostly an answer in the end. */
    private void code(int edition) {
        if (random.nextInt(3) == 0) {
            int[] pairs = CODES[random.nextInt(CODES.length)];
            for (int i = 0; i < pairs.length; i += 2) {
                op(edition, pairs[i], pairs[i + 1]);
            }
            return;
        }
        int puts = random.nextInt(4);
        for (int i = 0; i < puts; i++) {
            op(edition, new int[] {0, 1, 1, 10}[random.nextInt(4)]);
        }
        int others = random.nextInt(8) == 0 ? 15 : random.nextInt(6);
        for (int i = 0; i < others; i++) {
            op(edition, random.nextInt(11));
        }
        if (random.nextInt(8) > 0) {
            op(edition, 9);
        }
    }

    private void op() {
        op(edition(), within(0, 10));
    }

    private void op(int e, int op) {
        int c = op == 0 ? value() : op == 1 ? (random.nextInt(3) > 0 ? random.nextInt(2) : within(0, 7))
                : op == 8 ? (random.nextInt(3) > 0 ? random.nextInt(8) : within(0, 15))
                : random.nextInt(30) > 0 ? 0 : within(0, 1);
        op(e, op, c);
    }

    private void op(int e, int op, int c) {
        both("op(" + e + ", " + op + ", " + c + ")", () -> x.op(e, op, c), () -> model.op(e, op, c));
    }

    private void make() {
        int e = edition();
        seen("make " + both("make(" + e + ")", () -> x.make(e), () -> model.make(e)));
    }

    private void ask() {
        int o = owner();
        int k = kind();
        both("ask(" + o + ", " + k + ")", () -> x.ask(o, k), () -> model.ask(o, k));
    }

    private void fact() {
        int f = random.nextInt(3) > 0 ? 0 : within(0, 7);
        int v = random.nextInt(3) > 0 ? value() : random.nextInt(3) > 0 ? 0 : 10000;
        if (random.nextInt(4) > 0) {
            both("fact(" + f + ", " + v + ")", () -> nothing(() -> x.fact(f, v)), () -> nothing(() -> model.fact(f, v)));
        } else {
            both("fallback(" + f + ", " + v + ")", () -> nothing(() -> x.fallback(f, v)),
                    () -> nothing(() -> model.fallback(f, v)));
        }
    }

    private static Object nothing(Check.Call call) {
        call.run();
        return "nothing";
    }

    private void handleOrBy() {
        if (random.nextInt(3) == 0) {
            int e = edition();
            String got = both("handle(" + e + ")", () -> x.handle(e), () -> model.handle(e));
            handles += got.startsWith("throws") ? 0 : 1;
        }
        int h = random.nextInt(2) > 0 ? handles : within(1, Math.max(1, handles));
        String got = both("by(" + h + ")", () -> x.by(h), () -> model.by(h));
        if (!got.startsWith("throws")) {
            seen("by answers");
        }
    }

    private void comparing() {
        int e = edition();
        int f = edition();
        int o = owner();
        int k = kind();
        switch (random.nextInt(5)) {
            case 0:
                both("keep()", () -> x.keep(), () -> model.keep());
                break;
            case 1:
            case 2:
                String unlike = both("compare(" + e + ", " + f + ")", () -> x.compare(e, f), () -> model.compare(e, f));
                seen(unlike.matches("[1-8]") ? "compare more than 0" : "compare");
                String same = both("same(" + e + ", " + f + ")", () -> x.same(e, f) ? 1 : 0, () -> model.same(e, f) ? 1 : 0);
                seen(e == f ? "same itself" : "same " + same);
                break;
            default:
                both("shadow(" + o + ", " + k + ", " + e + ")", () -> nothing(() -> x.shadow(o, k, e)),
                        () -> nothing(() -> model.shadow(o, k, e)));
        }
    }

    private void telling() {
        int o = owner();
        int k = kind();
        int e = edition();
        int w = within(0, 7);
        int f = within(0, 5);
        int d = near(model.count(6));
        switch (random.nextInt(7)) {
            case 0:
                String failed = both("failed(" + o + ", " + f + ")", () -> x.failed(o, f), () -> model.failed(o, f));
                seen(failed.matches("[1-9][0-9]*") ? "failed " + f : "not failed");
                break;
            case 1:
                String unlike = both("otherwise(" + o + ", " + k + ")", () -> x.otherwise(o, k), () -> model.otherwise(o, k));
                seen(unlike.matches("[1-9][0-9]*") ? "otherwise more than 0" : "otherwise");
                break;
            case 2:
                both("told(" + e + ", " + w + ")", () -> x.told(e, w), () -> model.told(e, w));
                break;
            case 3:
                both("count(" + w + ")", () -> x.count(w), () -> model.count(w));
                break;
            case 4:
                both("edition(" + o + ", " + k + ", " + d + ")", () -> x.edition(o, k, d), () -> model.edition(o, k, d));
                break;
            case 5:
                both("divide(" + w + ", " + f + ")", () -> x.divide(w, f), () -> model.divide(w, f));
                break;
            default:
                // Far ahead, a run would soon stand at the last day.
                int t = d > model.count(6) + 9 && random.nextInt(20) > 0 ? model.count(6) : d;
                both("today(" + t + ")", () -> nothing(() -> x.today(t)), () -> nothing(() -> model.today(t)));
        }
    }
}
