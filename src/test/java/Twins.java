import java.util.ArrayList;
import java.util.List;
import java.util.concurrent.Callable;

/**
 * Two objects with the same past. One of them gets a call that must not change anything; from then
 * on both must answer alike in a row of calls that brings to light all that an object holds.
 */
final class Twins {
    enum Past { NEW, BUSY, FULL }

    interface Use {
        void of(RuleClasses x);
    }

    /** The sum of all eight facts in sixteen ops: a change of any one fact is seen in it. */
    static final int[] SUM_OF_FACTS = {1, 0, 1, 1, 2, 0, 1, 2, 2, 0, 1, 3, 2, 0, 1, 4, 2, 0,
        1, 5, 2, 0, 1, 6, 2, 0, 1, 7, 2, 0, 9, 0};

    private Twins() {
    }

    static RuleClasses with(Past past) {
        switch (past) {
            case NEW:
                return new RuleClasses(20);
            case BUSY:
                return busy();
            default:
                return full();
        }
    }

    /** The call is refused as is due, and nothing comes of it. */
    static void refuse(Past past, String what, Class<? extends RuntimeException> due, Use call) {
        RuleClasses refused = with(past);
        Check.refuses(what + " (" + past + ")", due, () -> call.of(refused));
        sameFuture(what + " (" + past + ")", refused, with(past));
    }

    /** After one call on the one and another on the other, the two cannot be told apart. */
    static void alike(Past past, String what, Use call, Use other) {
        RuleClasses one = with(past);
        RuleClasses another = with(past);
        call.of(one);
        other.of(another);
        sameFuture(what + " (" + past + ")", one, another);
    }

    private static void sameFuture(String what, RuleClasses one, RuleClasses another) {
        List<String> got = allThatIsHeld(one);
        List<String> want = allThatIsHeld(another);
        Check.is(what + ": so many later answers", got.size(), want.size());
        for (int i = 0; i < Math.min(got.size(), want.size()); i++) {
            Check.is(what + ": later " + got.get(i) + ", due is " + want.get(i),
                    got.get(i).equals(want.get(i)), true);
        }
    }

    private static void facts(RuleClasses x) {
        for (int fact = 0; fact < 8; fact++) {
            x.fact(fact, fact + 1);
        }
        for (int kind = 0; kind < 3; kind++) {
            x.fallback(kind, 7 + kind);
        }
    }

    /**
     * Editions 0, 1, 2 are made, 3 could be, 4 has no ops; two kept questions, three shadows,
     * questions that were answered, failed or had no edition, day 3, handle 1 ended, handle 2 not.
     */
    private static RuleClasses busy() {
        RuleClasses x = new RuleClasses(20);
        facts(x);
        Check.made(x, 0, 0, 0, SUM_OF_FACTS);
        Check.made(x, 0, 0, 3, 0, 12, 1, 0, 5, 0, 9, 0);
        Check.made(x, 5, 2, 0, 10, 0, 9, 0);
        Check.written(x, 5, 2, 2, 0, 5, 9, 0);
        x.rule(2, 1, 0);
        x.shadow(0, 0, 2);
        x.shadow(5, 2, 0);
        x.shadow(2, 1, 3);
        x.keep();
        x.fact(0, 0);
        x.keep();
        x.ask(0, 0);
        x.ask(5, 2);
        x.ask(2, 1);
        x.today(3);
        x.ask(0, 0);
        x.handle(2);
        x.handle(0);
        return x;
    }

    /** 24 editions, 0 and 1 made, 0 and 23 with sixteen ops; eight kept questions; the last day. */
    private static RuleClasses full() {
        RuleClasses x = new RuleClasses(5000);
        facts(x);
        Check.made(x, 0, 0, 0, SUM_OF_FACTS);
        Check.made(x, 0, 0, 1000, 10, 0, 9, 0);
        Check.written(x, 1, 1, 0, 0, 6, 9, 0);
        for (int edition = 3; edition < 23; edition++) {
            x.rule(edition % 6, edition % 3, edition * 10);
        }
        // The sum of the facts of the last kept question: a comparison with edition 23 sees it.
        Check.write(x, 22, 0, 379, 9, 0);
        Check.written(x, 5, 2, 1000, SUM_OF_FACTS);
        for (int n = 0; n < 8; n++) {
            x.keep();
            x.fact(n, 50 + n);
        }
        x.shadow(0, 0, 23);
        x.shadow(5, 2, 2);
        x.ask(0, 0);
        x.ask(5, 2);
        x.handle(0);
        x.today(1000);
        return x;
    }

    private static void hear(List<String> heard, String call, Callable<Object> answer) {
        try {
            heard.add(call + ": " + answer.call());
        } catch (Exception e) {
            heard.add(call + " throws " + e.getClass().getSimpleName());
        }
    }

    /** With what made the object, at most 512 calls: behind them every answer is free. */
    private static List<String> allThatIsHeld(RuleClasses x) {
        List<String> heard = new ArrayList<>();
        handlesAndCounts(x, heard);
        editions(x, heard);
        owners(x, heard);
        questions(x, heard);
        further(x, heard);
        return heard;
    }

    private static void handlesAndCounts(RuleClasses x, List<String> heard) {
        // Ahead of all else, the living one first: nothing else may have ended it in between.
        for (int handle = 3; handle >= 0; handle--) {
            int h = handle;
            hear(heard, "by " + h, () -> x.by(h));
        }
        for (int what = 0; what <= 7; what++) {
            int w = what;
            hear(heard, "count " + w, () -> x.count(w));
        }
    }

    private static void editions(RuleClasses x, List<String> heard) {
        int editions = x.count(0);
        for (int edition = 0; edition < editions; edition++) {
            int e = edition;
            for (int what = 0; what <= 7; what++) {
                int w = what;
                hear(heard, "told " + e + " " + w, () -> x.told(e, w));
            }
            int next = (e + 1) % editions;
            hear(heard, "compare " + e + " " + next, () -> x.compare(e, next));
            hear(heard, "same " + e + " " + next, () -> x.same(e, next));
        }
    }

    private static void owners(RuleClasses x, List<String> heard) {
        for (int owner = 0; owner < 6; owner++) {
            int o = owner;
            for (int what = 0; what < 6; what++) {
                int w = what;
                hear(heard, "failed " + o + " " + w, () -> x.failed(o, w));
            }
            for (int kind = 0; kind < 3; kind++) {
                int k = kind;
                hear(heard, "edition " + o + " " + k, () -> x.edition(o, k, 1000));
                hear(heard, "otherwise " + o + " " + k, () -> x.otherwise(o, k));
            }
        }
    }

    private static void questions(RuleClasses x, List<String> heard) {
        for (int owner = 0; owner < 6; owner++) {
            for (int kind = 0; kind < 3; kind++) {
                int o = owner;
                int k = kind;
                hear(heard, "ask " + o + " " + k, () -> x.ask(o, k));
                hear(heard, "otherwise behind it " + o + " " + k, () -> x.otherwise(o, k));
            }
        }
    }

    private static void further(RuleClasses x, List<String> heard) {
        hear(heard, "rule", () -> x.rule(4, 1, 0));
        int last = x.count(0) - 1;
        for (int i = 0; i < SUM_OF_FACTS.length; i += 2) {
            int op = SUM_OF_FACTS[i];
            int constant = SUM_OF_FACTS[i + 1];
            hear(heard, "op " + op, () -> x.op(last, op, constant));
        }
        hear(heard, "make", () -> x.make(last));
        hear(heard, "handle", () -> x.handle(last));
        hear(heard, "by it", () -> x.by(x.count(5)));
        hear(heard, "keep", () -> x.keep());
        hear(heard, "compare it", () -> x.compare(0, last));
    }
}
