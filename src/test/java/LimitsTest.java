/** What there can be at most: one less, just so many, and one more, which is refused or fails. */
public final class LimitsTest {
    private static final Class<UnsupportedOperationException> ROOM = UnsupportedOperationException.class;

    public static void main(String[] args) {
        editions();
        ops();
        theLastOpIsRun();
        keptQuestions();
        handles();
        mostStepsAreTold();
        fewSteps();
        manySteps();
        stepsOfEachQuestion();
        eightPut();
        eightPutInALoop();
        Check.end("LimitsTest");
    }

    /** "EDITIONS 0, 1, .. (at most 24, as they come)" */
    private static void editions() {
        RuleClasses x = new RuleClasses(20);
        for (int n = 0; n < 24; n++) {
            Check.is("edition " + n + " as it comes", x.rule(n % 6, n % 3, 0), n);
            Check.is("editions then", x.count(0), n + 1);
        }
        Check.refuses("a 25th edition", ROOM, () -> x.rule(0, 0, 0));
        Check.refuses("a 25th edition again", ROOM, () -> x.rule(5, 2, 1000));
        Check.is("editions still", x.count(0), 24);
        Check.write(x, 23, 0, 4, 9, 0);
        Check.is("the 24th is made", x.make(23), 0);
        Check.is("the 24th counts", x.edition(5, 2, 0), 23);
        Check.is("the 24th answers", x.ask(5, 2), 4);
        Twins.refuse(Twins.Past.FULL, "a 25th edition", ROOM, y -> y.rule(0, 0, 0));
    }

    /** "a CODE of at most 16 OPS", "it has sixteen" */
    private static void ops() {
        RuleClasses x = new RuleClasses(20);
        x.rule(0, 0, 0);
        x.rule(0, 0, 0);
        for (int n = 1; n <= 16; n++) {
            Check.is("so many ops", x.op(0, 9, 0), n);
            Check.is("as is told", x.told(0, 3), n);
        }
        Check.refuses("a 17th op", ROOM, () -> x.op(0, 9, 0));
        Check.refuses("a 17th op that puts", ROOM, () -> x.op(0, 0, 1));
        Check.is("still sixteen", x.told(0, 3), 16);
        Check.is("another edition has its own room", x.op(1, 9, 0), 1);
        Twins.refuse(Twins.Past.FULL, "a 17th op", ROOM, y -> y.op(23, 9, 0));
    }

    private static void theLastOpIsRun() {
        RuleClasses x = new RuleClasses(20);
        Check.is("an answer by the 16th op",
                x.by(x.handle(Check.made(x, 0, 0, 0, Twins.SUM_OF_FACTS))), 0);
        int without = x.rule(0, 0, 0);
        for (int n = 0; n < 8; n++) {
            Check.write(x, without, 0, 1, 8, 0);
        }
        Check.is("no next op behind the 16th", x.make(without), -4);
    }

    /** "how many there are. UnsupportedOperationException: there are eight." */
    private static void keptQuestions() {
        RuleClasses x = new RuleClasses(20);
        int fact = Check.made(x, 0, 0, 0, 1, 0, 9, 0);
        int nine = Check.made(x, 0, 0, 0, 0, 9, 9, 0);
        Check.is("none is kept, none is unlike", x.compare(fact, nine), 0);
        for (int n = 1; n <= 8; n++) {
            x.fact(0, n);
            Check.is("kept", x.keep(), n);
            Check.is("as is counted", x.count(4), n);
            Check.is("all are unlike", x.compare(fact, nine), n);
        }
        x.fact(0, 9);
        Check.refuses("a ninth", ROOM, () -> x.keep());
        Check.is("still eight", x.count(4), 8);
        Check.is("still those eight", x.compare(fact, nine), 8);
        for (int n = 1; n <= 8; n++) {
            int alike = Check.made(x, 0, 0, 0, 0, n, 9, 0);
            Check.is("each of them is still as it was", x.compare(fact, alike), 7);
        }
        Twins.refuse(Twins.Past.FULL, "a ninth kept question", ROOM, y -> y.keep());
    }

    /** "its number (1, 2, ..; 10000 at most)": behind the 512th call, but the document names it. */
    private static void handles() {
        RuleClasses x = new RuleClasses(20);
        Check.made(x, 0, 0, 0, 0, 5, 9, 0);
        for (int n = 1; n <= 10000; n++) {
            Check.is("the number of a handle", x.handle(0), n);
        }
        Check.refuses("handle 10001", ROOM, () -> x.handle(0));
        Check.is("still 10000", x.count(5), 10000);
        Check.is("the last one lives on", x.by(10000), 5);
        Check.refuses("the one ahead has ended", IllegalStateException.class, () -> x.by(9999));
        Check.refuses("one that never was", IllegalArgumentException.class, () -> x.by(10001));
    }

    /** "The MOST steps of a question are told at the beginning (0 .. 1000; below as 0, above as 1000)" */
    private static void mostStepsAreTold() {
        int[] steps = {Integer.MIN_VALUE, -1000, -1, 0, 1, 2, 999, 1000, 1001, 1002, Integer.MAX_VALUE};
        int[] most = {0, 0, 0, 0, 1, 2, 999, 1000, 1000, 1000, 1000};
        for (int i = 0; i < steps.length; i++) {
            Check.is("most steps of " + steps[i], new RuleClasses(steps[i]).count(7), most[i]);
        }
    }

    /** What make answers to a code of so many steps. */
    private static void stepsDue(int most, int steps, int due) {
        RuleClasses x = new RuleClasses(most);
        x.fact(0, 166);
        int edition = Check.written(x, 0, 0, 0, codeOf(steps));
        Check.is(steps + " steps with " + most + " at most", x.make(edition), due);
    }

    /** 2 .. 9 steps in a row; 999, 1000 and 1001 steps in a loop that fact 0, 166, counts. */
    private static int[] codeOf(int steps) {
        int rest = steps < 999 ? steps - 2 : steps - 6 * 166;
        int[] loop = {1, 0, 0, -1, 2, 0, 7, 0, 8, rest + 7, 0, 0, 8, rest + 1, 9, 0};
        int[] row = {0, 5, 9, 0};
        int[] behind = steps < 999 ? row : loop;
        int[] code = new int[2 * rest + behind.length];
        System.arraycopy(behind, 0, code, 2 * rest, behind.length);
        return code;
    }

    private static void fewSteps() {
        for (int most = 0; most <= 9; most++) {
            for (int steps = 2; steps <= 9; steps++) {
                stepsDue(most, steps, steps <= most ? 0 : -1);
            }
        }
        stepsDue(-1, 2, -1);
        stepsDue(Integer.MIN_VALUE, 2, -1);
        RuleClasses none = new RuleClasses(-1);
        Check.is("no step for the first op", none.make(Check.written(none, 0, 0, 0, 0, 5)), -1);
        Check.is("no step, and no op", none.make(none.rule(0, 0, 0)), -1);
    }

    private static void manySteps() {
        int[] most = {998, 999, 1000, 1001, Integer.MAX_VALUE};
        for (int m : most) {
            for (int steps = 999; steps <= 1001; steps++) {
                stepsDue(m, steps, steps <= m && steps <= 1000 ? 0 : -1);
            }
        }
    }

    /** Each question has all the steps again, and so have shadows, trials and comparisons. */
    private static void stepsOfEachQuestion() {
        RuleClasses x = new RuleClasses(4000);
        x.fact(0, 166);
        int edition = Check.made(x, 0, 0, 0, codeOf(1000));
        x.shadow(0, 0, edition);
        x.keep();
        for (int n = 1; n <= 3; n++) {
            Check.is("an answer with the last step", x.ask(0, 0), 0);
            Check.is("steps together", x.told(edition, 6), 1000 * n);
        }
        Check.is("the shadow had as many", x.otherwise(0, 0), 0);
        Check.is("it never failed", x.count(3), 0);
        Check.is("a comparison has as many", x.compare(edition, Check.written(x, 0, 0, 0, 0, 0, 9, 0)), 0);
        x.fact(0, 167);
        x.ask(0, 0);
        Check.is("six more steps are too many", x.failed(0, 1), 1);
        Check.is("the steps that there were", x.told(edition, 6), 4000);
    }

    private static int[] puts(int so, int... behind) {
        int[] code = new int[2 * so + behind.length];
        for (int i = 0; i < so; i++) {
            code[2 * i + 1] = i + 1;
        }
        System.arraycopy(behind, 0, code, 2 * so, behind.length);
        return code;
    }

    private static int tried(int... code) {
        RuleClasses x = new RuleClasses(50);
        return x.make(Check.written(x, 0, 0, 0, code));
    }

    /** "more than eight put": by each op that only puts. */
    private static void eightPut() {
        int[] putting = {0, 1, 7, 10};
        for (int op : putting) {
            Check.is("the seventh by op " + op, tried(puts(6, op, 0, 9, 0)), 0);
            Check.is("the eighth by op " + op, tried(puts(7, op, 0, 9, 0)), 0);
            Check.is("the ninth by op " + op, tried(puts(8, op, 0, 9, 0)), -3);
        }
        for (int op = 2; op <= 6; op++) {
            Check.is("op " + op + " with eight put", tried(puts(8, op, 0, 9, 0)), 0);
            Check.is("an eighth behind op " + op, tried(puts(8, op, 0, 0, 1, 9, 0)), 0);
            Check.is("a ninth behind op " + op, tried(puts(8, op, 0, 0, 1, 0, 1, 9, 0)), -3);
        }
        Check.is("an eighth behind op 8", tried(puts(8, 8, 0, 0, 1, 9, 0)), 0);
        Check.is("a ninth behind op 8", tried(puts(8, 8, 0, 0, 1, 0, 1, 9, 0)), -3);
    }

    /** Each round leaves one more: the sixth has eight put for a moment, the seventh would have nine. */
    private static void eightPutInALoop() {
        int[] rounds = {1, 5, 6, 7, 8};
        int[] due = {0, 0, 0, -3, -3};
        for (int i = 0; i < rounds.length; i++) {
            RuleClasses x = new RuleClasses(1000);
            x.fact(0, rounds[i]);
            int edition = Check.written(x, 0, 0, 0,
                    1, 0, 7, 0, 0, -1, 2, 0, 7, 0, 8, 8, 0, 0, 8, 1, 9, 0);
            Check.is(rounds[i] + " rounds", x.make(edition), due[i]);
        }
    }
}
