import java.util.NoSuchElementException;

/** Promises 18 to 20: divide, told, count. */
public final class TellingTest {
    private static final Class<IllegalArgumentException> RANGE = IllegalArgumentException.class;
    private static final Class<NoSuchElementException> NONE = NoSuchElementException.class;

    public static void main(String[] args) {
        promise18();
        promise19();
        promise20();
        Check.end("TellingTest");
    }

    private static void promise18() {
        RuleClasses x = new RuleClasses(0);
        Check.is("7 by 2", x.divide(7, 2), 3);
        Check.is("-7 by 2", x.divide(-7, 2), -3);
        Check.is("7 by -2", x.divide(7, -2), -3);
        Check.is("-7 by -2", x.divide(-7, -2), 3);
        Check.is("0 by -9", x.divide(0, -9), 0);
        Check.is("the greatest by 1", x.divide(Integer.MAX_VALUE, 1), Integer.MAX_VALUE);
        Check.is("the least by -1", x.divide(Integer.MIN_VALUE, -1), Integer.MIN_VALUE);
        Check.is("the least by itself", x.divide(Integer.MIN_VALUE, Integer.MIN_VALUE), 1);
        Check.refuses("7 by 0", ArithmeticException.class, () -> x.divide(7, 0));
        Check.refuses("0 by 0", ArithmeticException.class, () -> x.divide(0, 0));
        Check.refuses("the least by 0", ArithmeticException.class, () -> x.divide(Integer.MIN_VALUE, 0));
    }

    private static void toldDue(RuleClasses x, int edition, int... due) {
        for (int what = 0; what < due.length; what++) {
            Check.is("told(" + edition + ", " + what + ")", x.told(edition, what), due[what]);
        }
    }

    private static void promise19() {
        RuleClasses x = new RuleClasses(20);
        Check.refuses("no edition", NONE, () -> x.told(0, 0));
        x.fact(2, 4);
        x.rule(4, 2, 900);
        toldDue(x, 0, 4, 2, 900, 0, 0, 0, 0, 0);
        Check.write(x, 0, 0, 8, 1, 2, 5, 0, 9, 0);
        toldDue(x, 0, 4, 2, 900, 4, 0, 0, 0, 0);
        x.make(0);
        toldDue(x, 0, 4, 2, 900, 4, 1, 0, 0, 0);
        x.ask(4, 2);
        toldDue(x, 0, 4, 2, 900, 4, 1, 0, 0, 0);
        x.today(900);
        x.ask(4, 2);
        toldDue(x, 0, 4, 2, 900, 4, 1, 1, 4, 0);
        x.fact(2, 0);
        x.ask(4, 2);
        toldDue(x, 0, 4, 2, 900, 4, 1, 2, 7, 1);
        x.rule(1, 0, 3);
        toldDue(x, 1, 1, 0, 3, 0, 0, 0, 0, 0);
        Check.refuses("what below", RANGE, () -> x.told(0, -1));
        Check.refuses("what above", RANGE, () -> x.told(0, 8));
        Check.refuses("edition below", NONE, () -> x.told(-1, 0));
        Check.refuses("edition above", NONE, () -> x.told(2, 0));
        Check.refuses("no edition ahead of range", NONE, () -> x.told(2, 8));
    }

    private static void countsDue(RuleClasses x, int... due) {
        for (int what = 0; what < due.length; what++) {
            Check.is("count(" + what + ")", x.count(what), due[what]);
        }
    }

    private static void promise20() {
        RuleClasses x = new RuleClasses(123);
        countsDue(x, 0, 0, 0, 0, 0, 0, 0, 123);
        x.rule(0, 0, 0);
        x.rule(1, 1, 0);
        x.make(0);
        countsDue(x, 2, 0, 0, 0, 0, 0, 0, 123);
        x.fact(0, 1);
        Check.write(x, 0, 0, 6, 1, 0, 5, 0, 9, 0);
        x.make(0);
        countsDue(x, 2, 1, 0, 0, 0, 0, 0, 123);
        x.ask(0, 0);
        countsDue(x, 2, 1, 1, 0, 0, 0, 0, 123);
        x.ask(1, 1);
        countsDue(x, 2, 1, 2, 1, 0, 0, 0, 123);
        x.fact(0, 0);
        x.ask(0, 0);
        countsDue(x, 2, 1, 3, 2, 0, 0, 0, 123);
        x.keep();
        x.handle(0);
        x.handle(0);
        x.by(2);
        countsDue(x, 2, 1, 3, 2, 1, 2, 0, 123);
        x.today(44);
        countsDue(x, 2, 1, 3, 2, 1, 2, 44, 123);
        int[] others = {-1, 8, 9, Integer.MIN_VALUE, Integer.MAX_VALUE};
        for (int what : others) {
            Check.is("count(" + what + ")", x.count(what), -1);
        }
    }
}
