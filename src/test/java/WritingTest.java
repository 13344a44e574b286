import java.util.NoSuchElementException;

/** Promises 1 to 6: a new object, today, rule, op, make, fact. */
public final class WritingTest {
    private static final Class<IllegalArgumentException> RANGE = IllegalArgumentException.class;
    private static final Class<IllegalStateException> STATE = IllegalStateException.class;
    private static final Class<UnsupportedOperationException> ROOM = UnsupportedOperationException.class;
    private static final Class<NoSuchElementException> NONE = NoSuchElementException.class;

    public static void main(String[] args) {
        promise1();
        promise2();
        promise3();
        promise4();
        promise4Order();
        promise5();
        promise6();
        Check.end("WritingTest");
    }

    private static void promise1() {
        int[] told = {Integer.MIN_VALUE, -1, 0, 1, 999, 1000, 1001, Integer.MAX_VALUE};
        int[] most = {0, 0, 0, 1, 999, 1000, 1000, 1000};
        for (int i = 0; i < told.length; i++) {
            RuleClasses x = new RuleClasses(told[i]);
            Check.is("most steps of " + told[i], x.count(7), most[i]);
            for (int what = 0; what < 7; what++) {
                Check.is("count(" + what + ") of a new object", x.count(what), 0);
            }
        }
        RuleClasses x = new RuleClasses(5);
        for (int owner = 0; owner < 6; owner++) {
            for (int kind = 0; kind < 3; kind++) {
                Check.is("edition of a new object", x.edition(owner, kind, 1000), -1);
                Check.is("otherwise of a new object", x.otherwise(owner, kind), 0);
            }
            for (int what = 0; what < 6; what++) {
                Check.is("failed of a new object", x.failed(owner, what), 0);
            }
        }
        stepsAreCounted();
        nothingShadows();
    }

    private static void nothingShadows() {
        RuleClasses x = new RuleClasses(5);
        Check.written(x, 0, 0, 0, 0, 3, 9, 0);
        for (int owner = 0; owner < 6; owner++) {
            for (int kind = 0; kind < 3; kind++) {
                x.ask(owner, kind);
                Check.is("no shadow at first", x.otherwise(owner, kind), 0);
            }
        }
    }

    private static void stepsAreCounted() {
        RuleClasses two = new RuleClasses(2);
        Check.is("two steps are enough for two ops",
                two.make(Check.written(two, 0, 0, 0, 0, 1, 9, 0)), 0);
        RuleClasses one = new RuleClasses(1);
        Check.is("one step is not", one.make(Check.written(one, 0, 0, 0, 0, 1, 9, 0)), -1);
    }

    private static void promise2() {
        RuleClasses x = new RuleClasses(5);
        x.today(0);
        x.today(7);
        Check.is("today", x.count(6), 7);
        x.today(7);
        Check.refuses("a day before today", RANGE, () -> x.today(6));
        Check.refuses("a day below", RANGE, () -> x.today(-1));
        Check.refuses("a day above", RANGE, () -> x.today(1001));
        Check.is("today after refusals", x.count(6), 7);
        x.today(1000);
        Check.is("the last day", x.count(6), 1000);
        Check.refuses("a day behind the last", RANGE, () -> x.today(1001));
        Check.refuses("the least day", RANGE, () -> x.today(Integer.MIN_VALUE));
    }

    private static void promise3() {
        RuleClasses x = new RuleClasses(5);
        Check.refuses("owner below", RANGE, () -> x.rule(-1, 0, 0));
        Check.refuses("owner above", RANGE, () -> x.rule(6, 0, 0));
        Check.refuses("kind below", RANGE, () -> x.rule(0, -1, 0));
        Check.refuses("kind above", RANGE, () -> x.rule(0, 3, 0));
        Check.refuses("day below", RANGE, () -> x.rule(0, 0, -1));
        Check.refuses("day above", RANGE, () -> x.rule(0, 0, 1001));
        Check.is("no edition by refusals", x.count(0), 0);
        x.today(500);
        for (int i = 0; i < 24; i++) {
            Check.is("the number of an edition", x.rule(i % 6, i % 3, i == 23 ? 1000 : i), i);
        }
        Check.is("owner", x.told(23, 0), 5);
        Check.is("kind", x.told(23, 1), 2);
        Check.is("day", x.told(23, 2), 1000);
        Check.refuses("no room", ROOM, () -> x.rule(0, 0, 0));
        Check.refuses("range ahead of room", RANGE, () -> x.rule(6, 0, 0));
        Check.refuses("kind's range ahead of room", RANGE, () -> x.rule(0, 3, 0));
        Check.refuses("day's range ahead of room", RANGE, () -> x.rule(0, 0, 1001));
        Check.is("editions", x.count(0), 24);
    }

    private static void promise4() {
        RuleClasses x = new RuleClasses(5);
        x.rule(0, 0, 0);
        accepts(x, 0, -10000, 10000);
        x.rule(0, 0, 0);
        accepts(x, 1, 0, 7);
        x.rule(0, 0, 0);
        accepts(x, 8, 0, 15);
        int[] without = {2, 3, 4, 5, 6, 7, 9, 10};
        int edition = x.rule(0, 0, 0);
        for (int i = 0; i < without.length; i++) {
            int op = without[i];
            Check.is("op " + op, x.op(edition, op, 0), i + 1);
            Check.refuses("op " + op + " with 1", RANGE, () -> x.op(edition, op, 1));
            Check.refuses("op " + op + " with -1", RANGE, () -> x.op(edition, op, -1));
        }
        Check.refuses("op -1", RANGE, () -> x.op(edition, -1, 0));
        Check.refuses("op 11", RANGE, () -> x.op(edition, 11, 0));
        for (int n = 9; n <= 16; n++) {
            Check.is("so many ops", x.op(edition, 0, n), n);
        }
        Check.refuses("a seventeenth op", ROOM, () -> x.op(edition, 0, 1));
        Check.is("ops after the refusal", x.told(edition, 3), 16);
    }

    private static void accepts(RuleClasses x, int op, int least, int greatest) {
        int edition = x.count(0) - 1;
        Check.is("op " + op + " least", x.op(edition, op, least), 1);
        Check.is("op " + op + " greatest", x.op(edition, op, greatest), 2);
        Check.refuses("op " + op + " below", RANGE, () -> x.op(edition, op, least - 1));
        Check.refuses("op " + op + " above", RANGE, () -> x.op(edition, op, greatest + 1));
        Check.is("ops after refusals", x.told(edition, 3), 2);
    }

    private static void promise4Order() {
        RuleClasses x = new RuleClasses(20);
        Check.refuses("no edition", NONE, () -> x.op(0, 0, 0));
        Check.refuses("edition -1", NONE, () -> x.op(-1, 0, 0));
        Check.refuses("no edition ahead of range", NONE, () -> x.op(0, 11, 20000));
        int edition = Check.made(x, 0, 0, 0, 0, 1, 9, 0);
        Check.refuses("made", STATE, () -> x.op(edition, 0, 1));
        Check.refuses("range ahead of made", RANGE, () -> x.op(edition, 11, 0));
        Check.refuses("constant's range ahead of made", RANGE, () -> x.op(edition, 0, 10001));
        int full = Check.written(x, 0, 0, 0, 0, 1, 9, 0);
        for (int i = 0; i < 14; i++) {
            x.op(full, 9, 0);
        }
        Check.refuses("range ahead of room", RANGE, () -> x.op(full, 9, 1));
        Check.is("a full code is made", x.make(full), 0);
        Check.refuses("made ahead of room", STATE, () -> x.op(full, 9, 0));
        Check.refuses("the edition behind the last", NONE, () -> x.op(2, 0, 0));
    }

    private static void promise5() {
        RuleClasses x = new RuleClasses(20);
        Check.refuses("no edition", NONE, () -> x.make(0));
        Check.refuses("edition -1", NONE, () -> x.make(-1));
        int edition = x.rule(2, 1, 0);
        Check.is("an empty code", x.make(edition), -4);
        Check.write(x, edition, 0, 10, 1, 3, 5, 0, 9, 0);
        Check.is("tried with fact 3 at 0", x.make(edition), -2);
        Check.is("not made", x.told(edition, 4), 0);
        Check.is("does not count", x.edition(2, 1, 0), -1);
        Check.is("nobody's failure", x.failed(2, 2), 0);
        Check.is("no failed question", x.count(3), 0);
        Check.is("the edition did not fail", x.told(edition, 7), 0);
        Check.is("no steps", x.told(edition, 6), 0);
        Check.is("it is still written", x.op(edition, 0, 1), 5);
        x.fact(3, 5);
        Check.is("tried with fact 3 at 5", x.make(edition), 0);
        Check.is("made", x.told(edition, 4), 1);
        Check.is("made ones", x.count(1), 1);
        Check.is("the trial is no question", x.count(2), 0);
        Check.is("the trial is not asked", x.told(edition, 5), 0);
        Check.is("the trial has no steps of questions", x.told(edition, 6), 0);
        Check.refuses("made twice", STATE, () -> x.make(edition));
        Check.refuses("the edition behind the last", NONE, () -> x.make(1));
    }

    private static void promise6() {
        RuleClasses x = new RuleClasses(20);
        for (int fact = 0; fact < 8; fact++) {
            int edition = Check.made(x, fact % 6, fact / 6, 0, 1, fact, 9, 0);
            Check.is("a fact at first", x.ask(fact % 6, fact / 6), 0);
            Check.is("its edition", edition, fact);
        }
        for (int fact = 0; fact < 8; fact++) {
            x.fact(fact, 100 + fact);
        }
        x.fact(0, -10000);
        x.fact(7, 10000);
        int[] due = {-10000, 101, 102, 103, 104, 105, 106, 10000};
        Check.refuses("fact below", RANGE, () -> x.fact(-1, 0));
        Check.refuses("fact above", RANGE, () -> x.fact(8, 0));
        Check.refuses("value below", RANGE, () -> x.fact(0, -10001));
        Check.refuses("value above", RANGE, () -> x.fact(7, 10001));
        for (int fact = 0; fact < 8; fact++) {
            Check.is("fact " + fact, x.ask(fact % 6, fact / 6), due[fact]);
        }
    }
}
