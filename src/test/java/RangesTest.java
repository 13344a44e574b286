import java.util.NoSuchElementException;

/**
 * Every number that a call is given, at the edges of its range, just inside and just outside:
 * inside it does what is due, outside it is refused and nothing comes of it.
 */
public final class RangesTest {
    private static final Class<IllegalArgumentException> RANGE = IllegalArgumentException.class;
    private static final Class<NoSuchElementException> NONE = NoSuchElementException.class;

    /** A call with a number, and whether what comes of it is what is due. */
    private interface Takes {
        boolean takes(RuleClasses x, int n);
    }

    public static void main(String[] args) {
        owners();
        kinds();
        days();
        facts();
        values();
        ops();
        constants();
        constantsThatAreZero();
        whats();
        whatOfCount();
        editions();
        secondEditions();
        editionsOfShadows();
        editionsOfNone();
        handles();
        Check.end("RangesTest");
    }

    private static void inside(String what, Twins.Past past, int least, int greatest, Takes call) {
        for (int n = least; n <= greatest; n++) {
            // Of a long range the edges and what is just inside, of a short one every number.
            if (n - least < 16 || greatest - n < 16) {
                Check.is(what + " " + n + " (" + past + ")", call.takes(Twins.with(past), n), true);
            }
        }
    }

    private static void outside(String what, Twins.Past past, int least, int greatest,
            Class<? extends RuntimeException> due, Takes call) {
        int[] numbers = {least - 1, greatest + 1, Integer.MIN_VALUE, Integer.MAX_VALUE};
        for (int n : numbers) {
            Twins.refuse(past, what + " " + n, due, x -> call.takes(x, n));
        }
    }

    private static void range(String what, Twins.Past past, int least, int greatest, Takes call) {
        inside(what, past, least, greatest, call);
        outside(what, past, least, greatest, RANGE, call);
    }

    /** A range that is looked at ahead of everything that the past could refuse. */
    private static void everywhere(String what, int least, int greatest, Takes call) {
        range(what, Twins.Past.NEW, least, greatest, call);
        range(what, Twins.Past.BUSY, least, greatest, call);
        outside(what, Twins.Past.FULL, least, greatest, RANGE, call);
    }

    private static boolean told(RuleClasses x, int edition, int what, int due) {
        return x.told(edition, what) == due;
    }

    /** "OWNERS are 0 .. 5" */
    private static void owners() {
        everywhere("rule's owner", 0, 5, (x, n) -> told(x, x.rule(n, 0, 0), 0, n));
        everywhere("ask's owner", 0, 5, (x, n) -> {
            int before = x.count(2);
            x.ask(n, 1);
            return x.count(2) == before + 1 && x.failed(n, 0) > 0;
        });
        everywhere("edition's owner", 0, 5, (x, n) -> x.edition(n, 1, 0) == -1);
        everywhere("failed's owner", 0, 5, (x, n) -> x.failed(n, 5) == 0);
        everywhere("shadow's owner with none", 0, 5, (x, n) -> {
            x.shadow(n, 1, -1);
            return x.otherwise(n, 1) == 0;
        });
        range("shadow's owner", Twins.Past.BUSY, 0, 5, (x, n) -> {
            x.shadow(n, 1, 2);
            x.ask(n, 1);
            return x.otherwise(n, 1) == 1;
        });
        everywhere("otherwise's owner", 0, 5, (x, n) -> x.otherwise(n, 0) == (n == 0 && x.count(2) > 0 ? 2 : 0));
    }

    /** "KINDS of questions 0 .. 2" */
    private static void kinds() {
        everywhere("rule's kind", 0, 2, (x, n) -> told(x, x.rule(0, n, 0), 1, n));
        everywhere("ask's kind", 0, 2, (x, n) -> {
            x.fallback(n, 66);
            return x.ask(4, n) == 66;
        });
        everywhere("fallback's kind", 0, 2, (x, n) -> {
            x.fallback(n, 66);
            return x.ask(4, n) == 66 && x.ask(4, (n + 1) % 3) != 66;
        });
        everywhere("edition's kind", 0, 2, (x, n) -> x.edition(4, n, 0) == -1);
        everywhere("shadow's kind with none", 0, 2, (x, n) -> {
            x.shadow(4, n, -1);
            return x.otherwise(4, n) == 0;
        });
        range("shadow's kind", Twins.Past.BUSY, 0, 2, (x, n) -> {
            x.shadow(4, n, 2);
            x.ask(4, n);
            return x.otherwise(4, n) == 1;
        });
        everywhere("otherwise's kind", 0, 2, (x, n) -> x.otherwise(4, n) == 0);
    }

    /** "DAYS 0 .. 1000" */
    private static void days() {
        range("today's day", Twins.Past.NEW, 0, 1000, (x, n) -> {
            x.today(n);
            return x.count(6) == n;
        });
        everywhere("rule's day", 0, 1000, (x, n) -> told(x, x.rule(0, 0, n), 2, n));
        everywhere("edition's day", 0, 1000, (x, n) -> x.edition(4, 0, n) == -1);
        inside("edition's day with editions", Twins.Past.BUSY, 0, 1000,
                (x, n) -> x.edition(0, 0, n) == (n < 3 ? 0 : 1));
    }

    /** The answer of a new edition of two ops, by a handle: nobody is asked. */
    private static int answered(RuleClasses x, int op, int constant) {
        return x.by(x.handle(Check.made(x, 4, 2, 1000, op, constant, 9, 0)));
    }

    /** "FACTS 0 .. 7" */
    private static void facts() {
        range("fact's fact", Twins.Past.NEW, 0, 7, (x, n) -> {
            x.fact(n, 99);
            return answered(x, 1, n) == 99 && answered(x, 1, (n + 1) % 8) == 0;
        });
        outside("fact's fact", Twins.Past.BUSY, 0, 7, RANGE, (x, n) -> {
            x.fact(n, 99);
            return true;
        });
        inside("a fact at first", Twins.Past.NEW, 0, 7, (x, n) -> answered(x, 1, n) == 0);
    }

    /** "values (-10000 .. 10000; 0 at first)", "(-10000 .. 10000; 0 at first)" */
    private static void values() {
        everywhere("fact's value", -10000, 10000, (x, n) -> {
            x.fact(7, n);
            return answered(x, 1, 7) == n;
        });
        everywhere("fallback's value", -10000, 10000, (x, n) -> {
            x.fallback(2, n);
            return x.ask(4, 2) == n;
        });
        inside("a fallback at first", Twins.Past.NEW, 0, 2, (x, n) -> x.ask(0, n) == 0);
    }

    /** "An op is a number 0 .. 10" */
    private static void ops() {
        range("op's op", Twins.Past.BUSY, 0, 10, (x, n) -> x.op(4, n, 0) == 1 && told(x, 4, 3, 1));
        outside("op's op of a made edition", Twins.Past.BUSY, 0, 10, RANGE, (x, n) -> x.op(0, n, 0) == 1);
        outside("op's op of a full code", Twins.Past.FULL, 0, 10, RANGE, (x, n) -> x.op(23, n, 0) == 1);
    }

    /** "The constant: -10000 .. 10000; with 1 a fact; with 8 an op's number 0 .. 15" */
    private static void constants() {
        range("the constant of op 0", Twins.Past.BUSY, -10000, 10000,
                (x, n) -> x.op(4, 0, n) == 1 && answered(x, 0, n) == n);
        range("the constant of op 1", Twins.Past.BUSY, 0, 7,
                (x, n) -> x.op(4, 1, n) == 1 && answered(x, 1, n) == (n == 0 ? 0 : n + 1));
        range("the constant of op 8", Twins.Past.BUSY, 0, 15, (x, n) -> x.op(4, 8, n) == 1);
    }

    /** "with others 0" */
    private static void constantsThatAreZero() {
        int[] others = {2, 3, 4, 5, 6, 7, 9, 10};
        for (int op : others) {
            range("the constant of op " + op, Twins.Past.BUSY, 0, 0, (x, n) -> x.op(4, op, n) == 1);
        }
    }

    /** "by a failure 1 .. 5, or had no edition (0)", told's "0 its owner .. 7 how often it failed" */
    private static void whats() {
        everywhere("failed's what", 0, 5, (x, n) -> x.failed(3, n) == 0);
        int[] due = {0, 0, 3, 4, 1, 1, 3, 1};
        range("told's what", Twins.Past.BUSY, 0, 7, (x, n) -> x.told(1, n) == due[n]);
        outside("told's what", Twins.Past.FULL, 0, 7, RANGE, (x, n) -> x.told(23, n) == 0);
    }

    /** "-1 for another what": count refuses nothing. */
    private static void whatOfCount() {
        int[] due = {5, 3, 4, 2, 2, 2, 3, 20};
        inside("count's what", Twins.Past.BUSY, 0, 7, (x, n) -> x.count(n) == due[n]);
        int[] others = {-1, 8, Integer.MIN_VALUE, Integer.MAX_VALUE};
        for (int what : others) {
            for (Twins.Past past : Twins.Past.values()) {
                Check.is("count of " + what, Twins.with(past).count(what), -1);
                Twins.alike(past, "count of " + what, x -> x.count(what), x -> { });
            }
        }
    }

    private static void noSuch(String what, Takes call) {
        int[] editions = {0, 5, 24};
        for (Twins.Past past : Twins.Past.values()) {
            outside(what, past, 0, editions[past.ordinal()] - 1, NONE, call);
        }
    }

    /** "NoSuchElementException: an edition that there is not" */
    private static void editions() {
        noSuch("op's edition", (x, n) -> x.op(n, 0, 0) == 1);
        noSuch("make's edition", (x, n) -> x.make(n) == 0);
        noSuch("handle's edition", (x, n) -> x.handle(n) == 1);
        noSuch("told's edition", (x, n) -> x.told(n, 0) == 0);
        inside("op's edition", Twins.Past.BUSY, 3, 4, (x, n) -> x.op(n, 7, 0) == (n == 3 ? 3 : 1));
        inside("make's edition", Twins.Past.BUSY, 3, 4, (x, n) -> x.make(n) == (n == 3 ? 0 : -4));
        inside("handle's edition", Twins.Past.BUSY, 0, 2, (x, n) -> x.handle(n) == 3);
        inside("told's edition", Twins.Past.BUSY, 0, 4,
                (x, n) -> told(x, n, 0, new int[] {0, 0, 5, 5, 2}[n]));
        inside("told's edition", Twins.Past.FULL, 0, 23, (x, n) -> told(x, n, 0, n < 2 ? 0 : n == 2 ? 1 : n % 6));
    }

    private static void secondEditions() {
        noSuch("compare's edition", (x, n) -> x.compare(n, n) == 0);
        noSuch("same's edition", (x, n) -> x.same(n, n));
        Takes[] calls = {
            (x, n) -> x.compare(n, 4) == 2, (x, n) -> x.compare(4, n) == 2,
            (x, n) -> !x.same(n, 4), (x, n) -> !x.same(4, n)};
        for (Takes call : calls) {
            inside("one of two editions", Twins.Past.BUSY, 0, 3, call);
            outside("one of two editions", Twins.Past.BUSY, 0, 4, NONE, call);
            outside("one of two editions", Twins.Past.FULL, 0, 23, NONE, call);
        }
    }

    /** "-1: none does" */
    private static void editionsOfShadows() {
        Takes shadowed = (x, n) -> {
            x.shadow(3, 1, n);
            x.ask(3, 1);
            return x.otherwise(3, 1) == (n == -1 ? 0 : 1);
        };
        inside("shadow's edition", Twins.Past.NEW, -1, -1, shadowed);
        inside("shadow's edition", Twins.Past.BUSY, -1, 4, shadowed);
        inside("shadow's edition", Twins.Past.FULL, -1, 23, shadowed);
        outside("shadow's edition", Twins.Past.NEW, -1, -1, NONE, shadowed);
        outside("shadow's edition", Twins.Past.BUSY, -1, 4, NONE, shadowed);
        outside("shadow's edition", Twins.Past.FULL, -1, 23, NONE, shadowed);
    }

    /** "No editions" of a new object: even the number 0 is none. */
    private static void editionsOfNone() {
        Takes[] calls = {
            (x, n) -> x.op(n, 0, 0) == 1, (x, n) -> x.make(n) == 0, (x, n) -> x.handle(n) == 1,
            (x, n) -> x.compare(n, n) == 0, (x, n) -> x.same(n, n), (x, n) -> x.told(n, 0) == 0};
        for (Takes call : calls) {
            outside("an edition of a new object", Twins.Past.NEW, 1, -1, NONE, call);
        }
    }

    /** "there never was such a handle" */
    private static void handles() {
        outside("by's handle", Twins.Past.NEW, 1, 0, RANGE, (x, n) -> x.by(n) == 0);
        outside("by's handle", Twins.Past.BUSY, 1, 2, RANGE, (x, n) -> x.by(n) == 0);
        outside("by's handle", Twins.Past.FULL, 1, 1, RANGE, (x, n) -> x.by(n) == 0);
        inside("by's handle", Twins.Past.BUSY, 2, 2, (x, n) -> x.by(n) == 35);
    }
}
