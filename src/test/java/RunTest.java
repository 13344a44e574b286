/** The terms: every op, how a run goes and how it fails, and which failure comes first. */
public final class RunTest {
    public static void main(String[] args) {
        answers();
        divisions();
        jumps();
        asked();
        tooFewToTake();
        tooManyPut();
        values();
        stepsAndEnds();
        stepsOfFailures();
        Check.end("RunTest");
    }

    private static void due(String what, int want, int... code) {
        RuleClasses x = new RuleClasses(1000);
        int edition = Check.written(x, 0, 0, 0, code);
        Check.is(what + ": make", x.make(edition), 0);
        Check.is(what, x.ask(0, 0), want);
    }

    private static void fails(String what, int failure, int... code) {
        failsWithin(1000, what, failure, code);
    }

    private static void failsWithin(int steps, String what, int failure, int... code) {
        RuleClasses x = new RuleClasses(steps);
        Check.is(what, x.make(Check.written(x, 0, 0, 0, code)), -failure);
    }

    private static void answers() {
        due("constant", -17, 0, -17, 9, 0);
        due("the upper one is the answer", 2, 0, 1, 0, 2, 9, 0);
        due("sum", 5, 0, 7, 0, -2, 2, 0, 9, 0);
        due("lower less upper", 9, 0, 7, 0, -2, 3, 0, 9, 0);
        due("product", -14, 0, 7, 0, -2, 4, 0, 9, 0);
        due("less", 1, 0, 3, 0, 4, 6, 0, 9, 0);
        due("equal is not less", 0, 0, 4, 0, 4, 6, 0, 9, 0);
        due("greater is not less", 0, 0, 5, 0, 4, 6, 0, 9, 0);
        due("once more", 49, 0, 7, 7, 0, 4, 0, 9, 0);
        due("two are taken, one put", 8, 0, 1, 0, 3, 0, 4, 2, 0, 2, 0, 9, 0);
        due("what follows the answer is not run", 3, 0, 3, 9, 0, 9, 0);
    }

    private static void divisions() {
        due("7 by 2", 3, 0, 7, 0, 2, 5, 0, 9, 0);
        due("-7 by 2", -3, 0, -7, 0, 2, 5, 0, 9, 0);
        due("7 by -2", -3, 0, 7, 0, -2, 5, 0, 9, 0);
        due("-7 by -2", 3, 0, -7, 0, -2, 5, 0, 9, 0);
        due("0 by 5", 0, 0, 0, 0, 5, 5, 0, 9, 0);
        fails("by 0", 2, 0, 7, 0, 0, 5, 0, 9, 0);
        fails("0 by 0", 2, 0, 0, 0, 0, 5, 0, 9, 0);
    }

    private static void jumps() {
        due("0 goes on elsewhere", 2, 0, 0, 8, 4, 0, 1, 9, 0, 0, 2, 9, 0);
        due("another one goes on behind", 1, 0, 1, 8, 4, 0, 1, 9, 0, 0, 2, 9, 0);
        due("a negative one is not 0", 1, 0, -1, 8, 4, 0, 1, 9, 0, 0, 2, 9, 0);
        due("the test is taken", 6, 0, 6, 0, 1, 8, 0, 9, 0);
        fails("behind the end", 4, 0, 0, 8, 2);
        fails("far behind the end", 4, 0, 0, 8, 15);
        fails("for ever", 1, 0, 0, 8, 0);
        due("to the last of sixteen", 9, 0, 9, 0, 0, 8, 15, 0, 1, 0, 1, 0, 1, 0, 1, 0, 1,
                0, 1, 0, 1, 0, 1, 0, 1, 0, 1, 0, 1, 0, 1, 9, 0);
    }

    private static void asked() {
        RuleClasses x = new RuleClasses(10);
        // Answers 12 / (2 - asked before): 6, 12, fails, -12.
        int edition = Check.made(x, 0, 0, 0, 0, 12, 0, 2, 10, 0, 3, 0, 5, 0, 9, 0);
        x.fallback(0, 99);
        Check.is("first", x.ask(0, 0), 6);
        Check.is("second", x.ask(0, 0), 12);
        Check.is("third fails", x.ask(0, 0), 99);
        Check.is("the failed one was asked", x.ask(0, 0), -12);
        Check.is("times asked", x.told(edition, 5), 4);
        int other = Check.made(x, 0, 0, 1, 10, 0, 9, 0);
        x.today(1);
        Check.is("another edition was not asked", x.ask(0, 0), 0);
        Check.is("each has its own", x.told(other, 5), 1);
        Check.is("its own number stays", x.told(edition, 5), 4);
    }

    private static void tooFewToTake() {
        for (int op = 2; op <= 6; op++) {
            fails("op " + op + " with none", 3, op, 0, 9, 0);
            fails("op " + op + " with one", 3, 0, 0, op, 0, 9, 0);
        }
        fails("op 7 with none", 3, 7, 0, 9, 0);
        fails("op 8 with none", 3, 8, 0, 9, 0);
        fails("op 9 with none", 3, 9, 0);
        fails("division of one by nothing is no division by 0", 3, 0, 0, 5, 0);
    }

    private static void tooManyPut() {
        int[] eight = {0, 1, 0, 1, 0, 1, 0, 1, 0, 1, 0, 1, 0, 1, 0, 1};
        due("eight put", 1, joined(eight, 9, 0));
        fails("nine by a constant", 3, joined(eight, 0, 1, 9, 0));
        fails("nine by a fact", 3, joined(eight, 1, 1, 9, 0));
        fails("nine by once more", 3, joined(eight, 7, 0, 9, 0));
        fails("nine by op 10", 3, joined(eight, 10, 0, 9, 0));
        due("a sum of eight", 2, joined(eight, 2, 0, 9, 0));
        due("eight again behind a sum", 5, joined(eight, 2, 0, 0, 5, 9, 0));
    }

    private static int[] joined(int[] first, int... second) {
        int[] all = new int[first.length + second.length];
        System.arraycopy(first, 0, all, 0, first.length);
        System.arraycopy(second, 0, all, first.length, second.length);
        return all;
    }

    private static int[] milliard(int... behind) {
        return joined(new int[] {0, 10000, 7, 0, 4, 0, 0, 10, 4, 0}, behind);
    }

    private static void values() {
        due("1000000000", 1000000000, milliard(9, 0));
        fails("one more", 5, milliard(0, 1, 2, 0, 9, 0));
        due("-1000000000", -1000000000, milliard(0, -1, 4, 0, 9, 0));
        fails("one less", 5, milliard(0, -1, 4, 0, 0, 1, 3, 0, 9, 0));
        due("the square of -10000", 100000000, 0, -10000, 7, 0, 4, 0, 9, 0);
        // The square fits neither the range nor an int; as an int it would wrap into the range.
        fails("the square of 1000000000", 5, milliard(7, 0, 4, 0, 9, 0));
        fails("65536 times 65536, 0 as an int", 5, 0, 256, 7, 0, 4, 0, 7, 0, 4, 0, 9, 0);
        fails("a sum of two", 5, milliard(7, 0, 2, 0, 9, 0));
        due("the greatest by -1", -1000000000, milliard(0, -1, 5, 0, 9, 0));
        due("the greatest less itself", 0, milliard(7, 0, 3, 0, 9, 0));
    }

    private static void stepsAndEnds() {
        failsWithin(0, "no steps, no ops", 1);
        failsWithin(1, "a step, no ops", 4);
        failsWithin(1, "no steps ahead of no next op", 1, 0, 1);
        failsWithin(2, "no next op", 4, 0, 1);
        failsWithin(2, "no steps ahead of too few", 1, 0, 1, 0, 1, 9, 0);
        failsWithin(0, "no steps ahead of too few at once", 1, 9, 0);
        failsWithin(2, "no steps ahead of a divisor", 1, 0, 1, 0, 0, 5, 0);
        failsWithin(3, "a divisor with the last step", 2, 0, 1, 0, 0, 5, 0);
        failsWithin(1000, "a loop without an end", 1, 0, 0, 8, 0);
        RuleClasses x = new RuleClasses(3);
        Check.is("the answer with the last step", x.make(Check.written(x, 0, 0, 0, 0, 1, 7, 0, 9, 0)), 0);
    }

    /** The steps of a question that fails: the op that fails is one, an op that there is not is none. */
    private static void stepsOfFailures() {
        stepsDue("no steps left", 0, 1, 6, 1, 1, 8, 0, 0, 5, 9, 0);
        stepsDue("a divisor", 0, 2, 3, 0, 1, 1, 1, 5, 0, 9, 0);
        stepsDue("too few", 0, 3, 3, 1, 1, 8, 3, 0, 5, 9, 0);
        stepsDue("no next op", 0, 4, 2, 1, 1, 8, 15, 0, 5, 9, 0);
        stepsDue("a value", 10000, 5, 5, 1, 1, 7, 0, 4, 0, 7, 0, 4, 0, 9, 0);
        putInALoop();
    }

    /** The code answers in the trial, with fact 1 at 1, and fails in the question. */
    private static void stepsDue(String what, int fact, int failure, int steps, int... code) {
        RuleClasses x = new RuleClasses(6);
        x.fact(1, 1);
        int edition = Check.made(x, 3, 2, 0, code);
        x.fact(1, fact);
        x.fallback(2, -5);
        Check.is(what + ": answer", x.ask(3, 2), -5);
        Check.is(what + ": failed", x.failed(3, failure), 1);
        Check.is(what + ": steps", x.told(edition, 6), steps);
        Check.is(what + ": the edition failed", x.told(edition, 7), 1);
        x.fact(1, 1);
        x.ask(3, 2);
        Check.is(what + ": failed no more", x.told(edition, 7), 1);
    }

    private static void putInALoop() {
        RuleClasses x = new RuleClasses(1000);
        x.fact(1, 1);
        int edition = Check.made(x, 0, 0, 0, 0, 1, 1, 1, 8, 0, 9, 0);
        x.fact(1, 0);
        x.ask(0, 0);
        Check.is("a loop puts nine", x.failed(0, 3), 1);
        Check.is("its steps", x.told(edition, 6), 23);
    }
}
