/** The terms of a run: each op at the edges of what it takes and puts, and which failure comes first. */
public final class RunEdgesTest {
    // 1000000001 is 52579 * 1001 * 19; its halves fit constants, the last factor comes behind.
    private static final int[] MILLIARD_AND_ONE_BY_19 = {0, 10000, 0, 5, 4, 0, 0, 2579, 2, 0, 0, 1001, 4, 0};
    private static final int[] MILLIARD = {0, 10000, 7, 0, 4, 0, 0, 10, 4, 0};
    private static final int[] MINUS_MILLIARD = {0, 10000, 7, 0, 4, 0, 0, -10, 4, 0};

    public static void main(String[] args) {
        tooFewToTake();
        divisors();
        restsAreDropped();
        whetherLess();
        jumpsByValue();
        jumpsByTarget();
        noNextOp();
        sums();
        differences();
        products();
        wrapArounds();
        quotients();
        howOftenAsked();
        nothingPutAtFirst();
        oneFailureAheadOfAnother();
        failuresThatCannotMeet();
        Check.end("RunEdgesTest");
    }

    private static int[] joined(int[] first, int... second) {
        int[] all = new int[first.length + second.length];
        System.arraycopy(first, 0, all, 0, first.length);
        System.arraycopy(second, 0, all, first.length, second.length);
        return all;
    }

    private static void fails(String what, int failure, int... code) {
        failsWithin(1000, what, failure, code);
    }

    private static void failsWithin(int most, String what, int failure, int... code) {
        RuleClasses x = new RuleClasses(most);
        int edition = Check.written(x, 0, 0, 0, code);
        Check.is(what + " (" + most + " steps)", x.make(edition), -failure);
        Check.is(what + ": not made", x.told(edition, 4), 0);
    }

    private static void answers(String what, int answer, int... code) {
        RuleClasses x = new RuleClasses(1000);
        int edition = Check.written(x, 0, 0, 0, code);
        Check.is(what + ": tried", x.make(edition), 0);
        Check.is(what, x.ask(0, 0), answer);
    }

    /** "3 too few to take": none, one less than is needed, just enough. */
    private static void tooFewToTake() {
        int[] ofOne = {7, 8, 9};
        for (int op : ofOne) {
            fails("op " + op + " with none", 3, op, 0, 0, 1, 9, 0);
            answers("op " + op + " with one", op == 8 ? 3 : 5, 0, 5, op, 0, op == 8 ? 0 : 9,
                    op == 8 ? 3 : 0, 9, 0);
        }
        int[] due = {7, 3, 10, 2, 0};
        for (int op = 2; op <= 6; op++) {
            fails("op " + op + " with none", 3, op, 0, 9, 0);
            fails("op " + op + " with one", 3, 0, 5, op, 0, 9, 0);
            answers("op " + op + " with two", due[op - 2], 0, 5, 0, 2, op, 0, 9, 0);
            answers("op " + op + " with three", due[op - 2], 0, 77, 0, 5, 0, 2, op, 0, 9, 0);
            answers("op " + op + " leaves the third", 77, 0, 77, 0, 5, 0, 2, op, 0, 8, 5, 9, 0);
        }
    }

    /** "2 a divisor is 0": -1, 0 and 1, and a 0 that is divided. */
    private static void divisors() {
        answers("5 by -1", -5, 0, 5, 0, -1, 5, 0, 9, 0);
        fails("5 by 0", 2, 0, 5, 0, 0, 5, 0, 9, 0);
        answers("5 by 1", 5, 0, 5, 0, 1, 5, 0, 9, 0);
        answers("0 by -1", 0, 0, 0, 0, -1, 5, 0, 9, 0);
        fails("0 by 0", 2, 0, 0, 0, 0, 5, 0, 9, 0);
        answers("0 by 1", 0, 0, 0, 0, 1, 5, 0, 9, 0);
        fails("by a fact at 0", 2, 0, 5, 1, 7, 5, 0, 9, 0);
        fails("by how often it was asked, 0", 2, 0, 5, 10, 0, 5, 0, 9, 0);
        fails("by a difference that is 0", 2, 0, 5, 7, 0, 7, 0, 3, 0, 5, 0, 9, 0);
    }

    /** "rests are dropped towards 0" */
    private static void restsAreDropped() {
        for (int a = -7; a <= 7; a++) {
            for (int b = -3; b <= 3; b++) {
                if (b != 0) {
                    int whole = Math.abs(a) / Math.abs(b);
                    int due = (a < 0) == (b < 0) ? whole : -whole;
                    answers(a + " by " + b, due, 0, a, 0, b, 5, 0, 9, 0);
                    Check.is("divide " + a + " by " + b, new RuleClasses(0).divide(a, b), due);
                }
            }
        }
    }

    /** "whether the lower one is less (1 or 0)" */
    private static void whetherLess() {
        int[] around = {-10000, -1, 0, 1, 10000};
        for (int lower : around) {
            for (int upper : around) {
                answers(lower + " less than " + upper, lower < upper ? 1 : 0,
                        0, lower, 0, upper, 6, 0, 9, 0);
            }
        }
        answers("a milliard less than itself", 0, joined(MILLIARD, 7, 0, 6, 0, 9, 0));
    }

    /** "one is taken, if it is 0 the next op is the one with the constant's number" */
    private static void jumpsByValue() {
        int[] values = {-10000, -1, 0, 1, 10000};
        for (int value : values) {
            answers("op 8 with " + value, value == 0 ? 2 : 1,
                    0, value, 8, 4, 0, 1, 9, 0, 0, 2, 9, 0);
        }
    }

    private static void jumpsByTarget() {
        fails("to itself, with none to take", 3, 0, 0, 8, 1);
        fails("to the first op for ever", 1, 0, 0, 8, 0);
        answers("to the next op", 3, 0, 3, 0, 0, 8, 3, 9, 0);
        answers("to the last op", 3, 0, 3, 0, 0, 8, 5, 0, 4, 0, 4, 9, 0);
        fails("just behind the last op", 4, 0, 3, 0, 0, 8, 6, 0, 4, 0, 4, 9, 0);
        int[] fifteen = {0, 3, 0, 0, 8, 15, 9, 0, 9, 0, 9, 0, 9, 0, 9, 0, 9, 0, 9, 0, 9, 0, 9, 0, 9, 0,
            9, 0, 9, 0};
        fails("to op 15 of fifteen ops", 4, fifteen);
        answers("to op 15 of sixteen ops", 3, joined(fifteen, 9, 0));
        answers("not to op 15 of fifteen ops", 3, 0, 3, 0, 1, 8, 15, 9, 0);
    }

    /** "4 there is no next op" */
    private static void noNextOp() {
        fails("an empty code", 4);
        fails("no op behind one that puts", 4, 0, 1);
        fails("no op behind one that does not jump", 4, 0, 1, 8, 0);
        answers("an answer has no need of a next op", 1, 0, 1, 9, 0);
        RuleClasses x = new RuleClasses(10);
        int edition = Check.written(x, 0, 0, 0, 0, 1);
        Check.is("no next op yet", x.make(edition), -4);
        Check.is("but now", x.op(edition, 9, 0), 2);
        Check.is("then it is made", x.make(edition), 0);
    }

    /** "5 a value is below -1000000000 or above 1000000000": one inside, the edge, one outside. */
    private static void sums() {
        answers("a sum of 999999999", 999999999, joined(MILLIARD, 0, -1, 2, 0, 9, 0));
        answers("a sum of 1000000000", 1000000000, joined(MILLIARD, 0, 0, 2, 0, 9, 0));
        fails("a sum of 1000000001", 5, joined(MILLIARD, 0, 1, 2, 0, 9, 0));
        answers("a sum of -999999999", -999999999, joined(MINUS_MILLIARD, 0, 1, 2, 0, 9, 0));
        answers("a sum of -1000000000", -1000000000, joined(MINUS_MILLIARD, 0, 0, 2, 0, 9, 0));
        fails("a sum of -1000000001", 5, joined(MINUS_MILLIARD, 0, -1, 2, 0, 9, 0));
    }

    private static void differences() {
        answers("a difference of 999999999", 999999999, joined(MILLIARD, 0, 1, 3, 0, 9, 0));
        answers("a difference of 1000000000", 1000000000, joined(MILLIARD, 0, 0, 3, 0, 9, 0));
        fails("a difference of 1000000001", 5, joined(MILLIARD, 0, -1, 3, 0, 9, 0));
        answers("a difference of -999999999", -999999999, joined(MINUS_MILLIARD, 0, -1, 3, 0, 9, 0));
        answers("a difference of -1000000000", -1000000000, joined(MINUS_MILLIARD, 0, 0, 3, 0, 9, 0));
        fails("a difference of -1000000001", 5, joined(MINUS_MILLIARD, 0, 1, 3, 0, 9, 0));
    }

    private static void products() {
        int[] byNineNineNine = {0, 1001, 0, 1000, 4, 0, 0, 1, 2, 0};
        answers("a product of 999999999", 999999999, joined(byNineNineNine, 0, 999, 4, 0, 9, 0));
        answers("a product of 1000000000", 1000000000, joined(MILLIARD, 9, 0));
        fails("a product of 1000000001", 5, joined(MILLIARD_AND_ONE_BY_19, 0, 19, 4, 0, 9, 0));
        answers("a product of -999999999", -999999999, joined(byNineNineNine, 0, -999, 4, 0, 9, 0));
        answers("a product of -1000000000", -1000000000, joined(MINUS_MILLIARD, 9, 0));
        fails("a product of -1000000001", 5, joined(MILLIARD_AND_ONE_BY_19, 0, -19, 4, 0, 9, 0));
    }

    /** Values that would come back into the range if an int were to hold them. */
    private static void wrapArounds() {
        fails("65536 * 65536, 0 as an int", 5, 0, 256, 7, 0, 4, 0, 7, 0, 4, 0, 9, 0);
        fails("65536 * -65536", 5, 0, 256, 7, 0, 4, 0, 7, 0, 0, -1, 4, 0, 4, 0, 9, 0);
        fails("a milliard times itself", 5, joined(MILLIARD, 7, 0, 4, 0, 9, 0));
        fails("a milliard and a milliard", 5, joined(MILLIARD, 7, 0, 2, 0, 9, 0));
        fails("minus a milliard twice", 5, joined(MINUS_MILLIARD, 7, 0, 2, 0, 9, 0));
        fails("minus a milliard times itself", 5, joined(MINUS_MILLIARD, 7, 0, 4, 0, 9, 0));
        fails("minus a milliard less a milliard", 5, joined(MINUS_MILLIARD, 7, 0, 0, -1, 4, 0, 3, 0, 9, 0));
    }

    private static void quotients() {
        answers("a milliard by 1", 1000000000, joined(MILLIARD, 0, 1, 5, 0, 9, 0));
        answers("a milliard by -1", -1000000000, joined(MILLIARD, 0, -1, 5, 0, 9, 0));
        answers("minus a milliard by -1", 1000000000, joined(MINUS_MILLIARD, 0, -1, 5, 0, 9, 0));
        answers("a milliard by itself", 1, joined(MILLIARD, 7, 0, 5, 0, 9, 0));
        answers("1 by a milliard", 0, joined(joined(new int[] {0, 1}, MILLIARD), 5, 0, 9, 0));
        answers("-1 by a milliard", 0, joined(joined(new int[] {0, -1}, MILLIARD), 5, 0, 9, 0));
    }

    /** "how often this edition was asked before is put (asked: by ask(), also if it failed)" */
    private static void howOftenAsked() {
        RuleClasses x = new RuleClasses(10);
        x.fact(0, 1);
        // With fact 0 at 0 it fails behind its op 10.
        int edition = Check.made(x, 0, 0, 0, 10, 0, 1, 0, 8, 15, 9, 0);
        int three = Check.written(x, 1, 0, 0, 0, 3, 9, 0);
        x.keep();
        Check.is("the trial was nobody's", x.ask(0, 0), 0);
        Check.is("asked once", x.ask(0, 0), 1);
        x.fact(0, 0);
        x.ask(0, 0);
        Check.is("the third question failed", x.failed(0, 4), 1);
        x.fact(0, 1);
        Check.is("by a handle, asked three times", x.by(x.handle(edition)), 3);
        Check.is("by it again", x.by(1), 3);
        Check.is("in a comparison", x.compare(edition, three), 0);
        x.shadow(1, 0, edition);
        x.make(three);
        x.ask(1, 0);
        Check.is("as a shadow", x.otherwise(1, 0), 0);
        x.shadow(0, 0, three);
        Check.is("none of these is counted", x.ask(0, 0), 3);
        Check.is("and a shadow that is always 3 was alike", x.otherwise(0, 0), 0);
        Check.is("asked", x.told(edition, 5), 4);
    }

    /** "A RUN begins with op 0 and nothing put": nothing stays of a run before. */
    private static void nothingPutAtFirst() {
        RuleClasses x = new RuleClasses(20);
        int leaves = Check.made(x, 0, 0, 0, 0, 1, 0, 2, 0, 3, 0, 4, 0, 5, 0, 6, 0, 7, 0, 8, 9, 0);
        int takes = Check.written(x, 1, 0, 0, 9, 0);
        Check.is("seven stay put", x.ask(0, 0), 8);
        Check.is("the next run has none", x.make(takes), -3);
        Check.is("eight are put again", x.ask(0, 0), 8);
        x.keep();
        Check.is("nor has one of a comparison", x.compare(takes, leaves), 1);
        Check.is("nor the other", x.compare(leaves, takes), 1);
        int none = x.rule(2, 0, 0);
        Check.is("a run begins with op 0", x.make(none), -4);
        x.shadow(0, 0, leaves);
        Check.is("a question beside its shadow", x.ask(0, 0), 8);
        Check.is("the shadow has its own", x.otherwise(0, 0), 0);
    }

    /** "Of one op first 1, then 4, then 3 for what it takes, then 2, then 5, then 3 for what it puts." */
    private static void oneFailureAheadOfAnother() {
        failsWithin(0, "1 ahead of 4", 1);
        failsWithin(1, "4 with a step left", 4);
        failsWithin(1, "1 ahead of 4 behind an op", 1, 0, 1);
        failsWithin(2, "4 behind an op with a step left", 4, 0, 1);
        failsWithin(0, "1 ahead of 3 for what it takes", 1, 2, 0);
        failsWithin(1, "3 for what it takes with a step left", 3, 2, 0);
        failsWithin(2, "1 ahead of 2", 1, 0, 1, 0, 0, 5, 0);
        failsWithin(3, "2 with a step left", 2, 0, 1, 0, 0, 5, 0);
        failsWithin(6, "1 ahead of 5", 1, joined(MILLIARD, 7, 0, 2, 0));
        failsWithin(7, "5 with a step left", 5, joined(MILLIARD, 7, 0, 2, 0));
        int[] nine = {0, 1, 0, 1, 0, 1, 0, 1, 0, 1, 0, 1, 0, 1, 0, 1, 0, 1};
        failsWithin(8, "1 ahead of 3 for what it puts", 1, nine);
        failsWithin(9, "3 for what it puts with a step left", 3, nine);
        fails("3 for what it takes ahead of 2", 3, 0, 0, 5, 0);
        fails("3 for what it takes ahead of 5", 3, joined(MILLIARD, 4, 0));
        fails("2 ahead of no next op behind it", 2, 0, 1, 0, 0, 5, 0);
    }

    /**
     * A divisor 0 leaves no value, and what would be the ninth put is always in the range, so 2
     * never meets 5, nor 5 the second 3: here they only stand close together.
     */
    private static void failuresThatCannotMeet() {
        fails("a milliard by 0", 2, joined(MILLIARD, 0, 0, 5, 0, 9, 0));
        int[] sevenAndMilliard = joined(new int[] {0, 1, 0, 1, 0, 1, 0, 1, 0, 1, 0, 1}, MILLIARD);
        fails("5 with eight put", 5, joined(sevenAndMilliard, 7, 0, 2, 0));
        fails("3 with a milliard put", 3, joined(sevenAndMilliard, 7, 0, 7, 0));
    }
}
