import java.util.NoSuchElementException;

/** Promises 13 to 17: keep, compare, same, shadow, otherwise. */
public final class ComparingTest {
    private static final Class<IllegalArgumentException> RANGE = IllegalArgumentException.class;
    private static final Class<NoSuchElementException> NONE = NoSuchElementException.class;

    public static void main(String[] args) {
        promise13();
        promise14();
        promise14Failures();
        promise14Asked();
        promise15();
        promise16();
        promise16Asked();
        promise16Failures();
        promise16WithoutAnEdition();
        promise16WrongInputs();
        promise17();
        Check.end("ComparingTest");
    }

    private static void promise13() {
        RuleClasses x = new RuleClasses(20);
        for (int n = 1; n <= 8; n++) {
            Check.is("kept", x.keep(), n);
        }
        Check.refuses("a ninth", UnsupportedOperationException.class, () -> x.keep());
        Check.is("kept questions", x.count(4), 8);
        Check.is("they are no questions asked", x.count(2), 0);
    }

    private static void promise14() {
        RuleClasses x = new RuleClasses(20);
        int fact7 = Check.written(x, 0, 0, 0, 1, 7, 9, 0);
        int five = Check.made(x, 1, 1, 3, 0, 5, 9, 0);
        Check.is("nothing is kept", x.compare(fact7, five), 0);
        x.fact(7, 5);
        x.keep();
        Check.is("alike", x.compare(fact7, five), 0);
        x.fact(7, 6);
        Check.is("a kept question keeps its facts", x.compare(fact7, five), 0);
        x.keep();
        x.fact(7, 7);
        x.keep();
        x.fact(7, 5);
        Check.is("two unlike", x.compare(fact7, five), 2);
        Check.is("the other way round", x.compare(five, fact7), 2);
        Check.is("with itself", x.compare(fact7, fact7), 0);
        Check.refuses("no first", NONE, () -> x.compare(2, 0));
        Check.refuses("no second", NONE, () -> x.compare(0, 2));
        Check.refuses("first -1", NONE, () -> x.compare(-1, 0));
        Check.refuses("second -1", NONE, () -> x.compare(0, -1));
        Check.is("no question", x.count(2), 0);
        Check.is("nobody failed", x.count(3), 0);
        Check.is("nobody was asked", x.told(five, 5) + x.told(five, 6) + x.told(five, 7), 0);
    }

    private static void promise14Failures() {
        RuleClasses x = new RuleClasses(20);
        int[] failing = {
            Check.written(x, 0, 0, 0, 0, 0, 8, 0),
            Check.written(x, 0, 0, 0, 0, 1, 0, 0, 5, 0),
            Check.written(x, 0, 0, 0, 9, 0),
            Check.written(x, 0, 0, 0),
            Check.written(x, 0, 0, 0, 0, 10000, 7, 0, 4, 0, 7, 0, 4, 0)};
        int also2 = Check.written(x, 0, 0, 0, 0, 7, 0, 0, 5, 0);
        int zero = Check.written(x, 0, 0, 0, 0, 0, 9, 0);
        x.keep();
        for (int i = 0; i < 5; i++) {
            for (int k = 0; k < 5; k++) {
                Check.is("failures " + (i + 1) + " and " + (k + 1),
                        x.compare(failing[i], failing[k]), i == k ? 0 : 1);
            }
            Check.is("a failure and an answer that is its fallback", x.compare(failing[i], zero), 1);
            Check.is("an answer that is the fallback and a failure", x.compare(zero, failing[i]), 1);
        }
        Check.is("two that fail alike", x.compare(failing[1], also2), 0);
    }

    private static void promise14Asked() {
        RuleClasses x = new RuleClasses(20);
        int asked = Check.made(x, 0, 0, 0, 10, 0, 9, 0);
        int two = Check.written(x, 0, 0, 0, 0, 2, 9, 0);
        x.keep();
        x.keep();
        Check.is("asked 0 times", x.compare(asked, two), 2);
        x.ask(0, 0);
        Check.is("asked once", x.compare(asked, two), 2);
        x.ask(0, 0);
        Check.is("asked twice", x.compare(asked, two), 0);
        Check.is("still twice", x.compare(two, asked), 0);
    }

    private static void promise15() {
        RuleClasses x = new RuleClasses(20);
        int a = x.rule(0, 0, 0);
        int b = x.rule(5, 2, 9);
        Check.is("two empty ones", x.same(a, b), true);
        x.op(a, 0, 3);
        Check.is("one is longer", x.same(a, b), false);
        Check.is("the other is longer", x.same(b, a), false);
        x.op(b, 0, 4);
        Check.is("another constant", x.same(a, b), false);
        int c = Check.written(x, 0, 0, 0, 1, 3);
        Check.is("another op", x.same(a, c), false);
        int d = Check.written(x, 1, 1, 1, 0, 3);
        Check.is("the same code of others", x.same(a, d), true);
        Check.write(x, a, 7, 0, 9, 0);
        Check.write(x, d, 7, 0, 9, 0);
        Check.is("longer ones", x.same(a, d), true);
        x.make(a);
        Check.is("made or not", x.same(a, d), true);
        x.op(d, 9, 0);
        Check.is("one more", x.same(a, d), false);
        int e = Check.written(x, 0, 0, 0, 0, 3, 10, 0, 9, 0);
        Check.is("another in the middle", x.same(a, e), false);
        int f = Check.written(x, 0, 0, 0, 0, 3, 7, 0, 2, 0);
        Check.is("another at the end", x.same(a, f), false);
        fullCodes();
        Check.refuses("no first", NONE, () -> x.same(6, 0));
        Check.refuses("no second", NONE, () -> x.same(0, 6));
        Check.refuses("first -1", NONE, () -> x.same(-1, 0));
        Check.refuses("second -1", NONE, () -> x.same(0, -1));
    }

    private static void fullCodes() {
        RuleClasses x = new RuleClasses(20);
        for (int edition = 0; edition < 3; edition++) {
            x.rule(0, 0, 0);
            for (int n = 0; n < 15; n++) {
                x.op(edition, 0, n);
            }
            x.op(edition, edition == 2 ? 7 : 9, 0);
        }
        Check.is("two full codes", x.same(0, 1), true);
        Check.is("another in the last place", x.same(0, 2), false);
    }

    private static void promise16() {
        RuleClasses x = new RuleClasses(20);
        x.fact(3, 5);
        Check.made(x, 2, 1, 0, 1, 3, 9, 0);
        int five = Check.written(x, 4, 0, 9, 0, 5, 9, 0);
        int six = Check.written(x, 4, 0, 9, 0, 6, 9, 0);
        x.ask(2, 1);
        x.shadow(2, 1, five);
        Check.is("no question since", x.otherwise(2, 1), 0);
        x.ask(2, 1);
        Check.is("alike", x.otherwise(2, 1), 0);
        x.fact(3, 7);
        x.ask(2, 1);
        x.ask(2, 1);
        Check.is("otherwise twice", x.otherwise(2, 1), 2);
        x.ask(2, 0);
        x.ask(3, 1);
        Check.is("others' questions have no shadow", x.otherwise(2, 1), 2);
        Check.is("nor others a count", x.otherwise(2, 0) + x.otherwise(3, 1), 0);
        x.shadow(2, 1, six);
        Check.is("counted anew", x.otherwise(2, 1), 0);
        x.fact(3, 6);
        x.ask(2, 1);
        Check.is("the new one shadows", x.otherwise(2, 1), 0);
        x.fact(3, 5);
        x.ask(2, 1);
        Check.is("instead of the old one", x.otherwise(2, 1), 1);
        x.shadow(2, 1, six);
        Check.is("the same one is counted anew, too", x.otherwise(2, 1), 0);
        x.ask(2, 1);
        x.shadow(2, 1, -1);
        Check.is("none: counted anew", x.otherwise(2, 1), 0);
        x.ask(2, 1);
        Check.is("none shadows", x.otherwise(2, 1), 0);
        Check.is("shadows are not asked", x.told(five, 5) + x.told(six, 5), 0);
        Check.is("shadows have no steps", x.told(five, 6) + x.told(six, 6), 0);
    }

    private static void promise16Asked() {
        RuleClasses x = new RuleClasses(20);
        int asked = Check.made(x, 0, 0, 0, 10, 0, 9, 0);
        x.shadow(0, 0, asked);
        Check.is("first", x.ask(0, 0), 0);
        Check.is("second", x.ask(0, 0), 1);
        Check.is("the shadow is never counted", x.ask(0, 0), 2);
        Check.is("its own shadow is alike", x.otherwise(0, 0), 0);
        int zero = Check.made(x, 1, 0, 0, 0, 3, 9, 0);
        x.shadow(1, 0, asked);
        x.ask(1, 0);
        Check.is("another's shadow puts its own number", x.otherwise(1, 0), 0);
        x.ask(0, 0);
        x.ask(1, 0);
        Check.is("which grew", x.otherwise(1, 0), 1);
        Check.is("asked by its owner alone", x.told(asked, 5), 4);
        Check.is("asked", x.told(zero, 5), 2);
    }

    /** A failure is shadowed alike by the same failure alone, as in a comparison. */
    private static void promise16Failures() {
        RuleClasses x = new RuleClasses(20);
        x.fact(0, 1);
        Check.made(x, 0, 0, 0, 0, 8, 1, 0, 5, 0, 9, 0);
        int by0 = Check.written(x, 0, 0, 0, 0, 7, 0, 0, 5, 0, 9, 0);
        int noOp = Check.written(x, 0, 0, 0, 0, 7);
        int answers = Check.written(x, 0, 0, 0, 0, 55, 9, 0);
        x.fallback(0, 55);
        x.shadow(0, 0, by0);
        x.ask(0, 0);
        Check.is("the shadow fails alone", x.otherwise(0, 0), 1);
        x.fact(0, 0);
        x.ask(0, 0);
        Check.is("both fail alike", x.otherwise(0, 0), 1);
        x.shadow(0, 0, noOp);
        x.ask(0, 0);
        Check.is("both fail, not alike", x.otherwise(0, 0), 1);
        x.shadow(0, 0, answers);
        Check.is("the fallback is given", x.ask(0, 0), 55);
        Check.is("the question failed, the shadow answered", x.otherwise(0, 0), 1);
        Check.is("a shadow's failures are nobody's", x.failed(0, 4), 0);
        Check.is("three questions failed", x.failed(0, 2), 3);
        Check.is("a shadow's failures are not its edition's", x.told(by0, 7) + x.told(noOp, 7), 0);
    }

    private static void promise16WithoutAnEdition() {
        RuleClasses x = new RuleClasses(20);
        int zero = Check.written(x, 0, 0, 0, 0, 0, 9, 0);
        int empty = x.rule(0, 0, 0);
        x.shadow(0, 0, empty);
        x.ask(0, 0);
        Check.is("a shadow that fails", x.otherwise(0, 0), 1);
        x.shadow(0, 0, zero);
        x.ask(0, 0);
        Check.is("a shadow that answers", x.otherwise(0, 0), 1);
        x.make(zero);
        x.ask(0, 0);
        Check.is("the shadow counts now itself", x.otherwise(0, 0), 1);
        x.shadow(0, 0, empty);
        Check.write(x, empty, 0, 0, 9, 0);
        x.ask(0, 0);
        Check.is("a shadow is run with its code as it is", x.otherwise(0, 0), 0);
    }

    private static void promise16WrongInputs() {
        RuleClasses x = new RuleClasses(20);
        Check.refuses("no edition", NONE, () -> x.shadow(0, 0, 0));
        Check.refuses("edition -2", NONE, () -> x.shadow(0, 0, -2));
        Check.refuses("no edition ahead of range", NONE, () -> x.shadow(6, 3, 0));
        Check.refuses("owner of none", RANGE, () -> x.shadow(6, 0, -1));
        Check.refuses("kind of none", RANGE, () -> x.shadow(0, 3, -1));
        int edition = Check.written(x, 0, 0, 0, 0, 4, 9, 0);
        Check.refuses("owner below", RANGE, () -> x.shadow(-1, 0, edition));
        Check.refuses("owner above", RANGE, () -> x.shadow(6, 0, edition));
        Check.refuses("kind below", RANGE, () -> x.shadow(0, -1, edition));
        Check.refuses("kind above", RANGE, () -> x.shadow(0, 3, edition));
        x.shadow(5, 2, edition);
        x.ask(5, 2);
        Check.refuses("refused", NONE, () -> x.shadow(5, 2, 1));
        Check.is("a refusal changes nothing", x.otherwise(5, 2), 1);
        x.ask(5, 2);
        Check.is("it still shadows", x.otherwise(5, 2), 2);
    }

    private static void promise17() {
        RuleClasses x = new RuleClasses(20);
        int edition = Check.written(x, 0, 0, 0, 0, 4, 9, 0);
        for (int owner = 0; owner < 6; owner++) {
            for (int kind = 0; kind < 3; kind++) {
                x.shadow(owner, kind, edition);
                for (int n = 0; n < owner + 2 * kind; n++) {
                    x.ask(owner, kind);
                }
            }
        }
        for (int owner = 0; owner < 6; owner++) {
            for (int kind = 0; kind < 3; kind++) {
                Check.is("otherwise of each", x.otherwise(owner, kind), owner + 2 * kind);
            }
        }
        Check.refuses("owner below", RANGE, () -> x.otherwise(-1, 0));
        Check.refuses("owner above", RANGE, () -> x.otherwise(6, 0));
        Check.refuses("kind below", RANGE, () -> x.otherwise(0, -1));
        Check.refuses("kind above", RANGE, () -> x.otherwise(0, 3));
    }
}
