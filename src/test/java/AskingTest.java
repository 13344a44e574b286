/** Promises 7 to 10: ask, fallback, edition, failed. */
public final class AskingTest {
    private static final Class<IllegalArgumentException> RANGE = IllegalArgumentException.class;

    public static void main(String[] args) {
        promise7();
        promise7WrongInputs();
        promise8();
        promise9();
        promise9MadeLater();
        promise10();
        Check.end("AskingTest");
    }

    private static void promise7() {
        RuleClasses x = new RuleClasses(20);
        Check.is("no edition", x.ask(4, 1), 0);
        int first = Check.made(x, 4, 1, 0, 0, 11, 9, 0);
        Check.is("its answer", x.ask(4, 1), 11);
        Check.is("another kind has none", x.ask(4, 2), 0);
        Check.is("another owner has none", x.ask(3, 1), 0);
        int later = Check.made(x, 4, 1, 3, 0, 22, 9, 0);
        x.today(2);
        Check.is("the day before", x.ask(4, 1), 11);
        x.today(3);
        Check.is("its day", x.ask(4, 1), 22);
        x.today(1000);
        Check.is("the last day", x.ask(4, 1), 22);
        Check.is("the first was asked", x.told(first, 5), 2);
        Check.is("its steps", x.told(first, 6), 4);
        Check.is("the later was asked", x.told(later, 5), 2);
        Check.is("questions", x.count(2), 7);
        Check.is("failed ones", x.count(3), 3);
    }

    private static void promise7WrongInputs() {
        RuleClasses x = new RuleClasses(20);
        Check.refuses("owner below", RANGE, () -> x.ask(-1, 0));
        Check.refuses("owner above", RANGE, () -> x.ask(6, 0));
        Check.refuses("kind below", RANGE, () -> x.ask(0, -1));
        Check.refuses("kind above", RANGE, () -> x.ask(0, 3));
        Check.is("a refused one is no question", x.count(2), 0);
        Check.is("a refused one does not fail", x.count(3), 0);
        Check.is("the last owner and kind", x.ask(5, 2), 0);
    }

    private static void promise8() {
        RuleClasses x = new RuleClasses(20);
        x.fallback(0, -10000);
        x.fallback(2, 10000);
        Check.is("of kind 0", x.ask(1, 0), -10000);
        Check.is("of kind 1 at first", x.ask(1, 1), 0);
        Check.is("of kind 2", x.ask(5, 2), 10000);
        Check.refuses("kind below", RANGE, () -> x.fallback(-1, 0));
        Check.refuses("kind above", RANGE, () -> x.fallback(3, 0));
        Check.refuses("value below", RANGE, () -> x.fallback(0, -10001));
        Check.refuses("value above", RANGE, () -> x.fallback(0, 10001));
        Check.is("after refusals", x.ask(1, 0), -10000);
        x.fact(0, 1);
        Check.made(x, 1, 0, 0, 0, 8, 1, 0, 5, 0, 9, 0);
        Check.is("an answer has no fallback", x.ask(1, 0), 8);
        x.fact(0, 0);
        Check.is("a failure has", x.ask(1, 0), -10000);
        x.fallback(0, 3);
        Check.is("as it is now", x.ask(1, 0), 3);
    }

    private static void promise9() {
        RuleClasses x = new RuleClasses(20);
        int onFive = Check.made(x, 0, 0, 5, 0, 1, 9, 0);
        int onThree = Check.made(x, 0, 0, 3, 0, 1, 9, 0);
        int alsoOnFive = Check.made(x, 0, 0, 5, 0, 1, 9, 0);
        Check.written(x, 0, 0, 5, 0, 1, 9, 0);
        int onLast = Check.made(x, 0, 0, 1000, 0, 1, 9, 0);
        int onFour = Check.made(x, 0, 0, 4, 0, 1, 9, 0);
        int ofAnother = Check.made(x, 5, 2, 0, 0, 1, 9, 0);
        Check.is("numbers", onFive, 0);
        Check.is("day 0", x.edition(0, 0, 0), -1);
        Check.is("day 2", x.edition(0, 0, 2), -1);
        Check.is("day 3", x.edition(0, 0, 3), onThree);
        Check.is("day 4", x.edition(0, 0, 4), onFour);
        Check.is("of equal days the greatest number that is made", x.edition(0, 0, 5), alsoOnFive);
        Check.is("day 999", x.edition(0, 0, 999), alsoOnFive);
        Check.is("day 1000", x.edition(0, 0, 1000), onLast);
        Check.is("another owner and kind", x.edition(5, 2, 0), ofAnother);
        Check.is("another owner", x.edition(5, 0, 1000), -1);
        Check.is("another kind", x.edition(0, 2, 1000), -1);
        x.today(1000);
        Check.is("a day that was", x.edition(0, 0, 3), onThree);
        Check.refuses("owner below", RANGE, () -> x.edition(-1, 0, 0));
        Check.refuses("owner above", RANGE, () -> x.edition(6, 0, 0));
        Check.refuses("kind below", RANGE, () -> x.edition(0, -1, 0));
        Check.refuses("kind above", RANGE, () -> x.edition(0, 3, 0));
        Check.refuses("day below", RANGE, () -> x.edition(0, 0, -1));
        Check.refuses("day above", RANGE, () -> x.edition(0, 0, 1001));
        Check.is("it is no question", x.count(2), 0);
    }

    /** The number, not the order of making, decides between equal days. */
    private static void promise9MadeLater() {
        RuleClasses x = new RuleClasses(20);
        int low = Check.written(x, 0, 0, 0, 0, 1, 9, 0);
        int high = Check.written(x, 0, 0, 0, 0, 2, 9, 0);
        x.make(high);
        Check.is("the greater one alone", x.edition(0, 0, 0), high);
        x.make(low);
        Check.is("the greater one still", x.edition(0, 0, 0), high);
        Check.is("it answers", x.ask(0, 0), 2);
    }

    private static void promise10() {
        RuleClasses x = new RuleClasses(10);
        x.ask(2, 0);
        x.ask(2, 1);
        x.ask(3, 0);
        Check.is("owner 2 without an edition", x.failed(2, 0), 2);
        Check.is("owner 3 without an edition", x.failed(3, 0), 1);
        x.fact(0, 1);
        Check.made(x, 2, 0, 0, 0, 8, 1, 0, 5, 0, 9, 0);
        x.fact(0, 0);
        x.ask(2, 0);
        x.ask(2, 0);
        x.fact(0, 1);
        x.ask(2, 0);
        int[] due = {2, 0, 2, 0, 0, 0};
        for (int what = 0; what < 6; what++) {
            Check.is("failed(2, " + what + ")", x.failed(2, what), due[what]);
        }
        Check.is("another owner's", x.failed(3, 2), 0);
        Check.is("all that failed", x.count(3), 5);
        x.ask(0, 0);
        Check.is("the first owner's, too", x.count(3), 6);
        x.ask(5, 2);
        Check.is("the last owner's, too", x.count(3), 7);
        Check.refuses("owner below", RANGE, () -> x.failed(-1, 0));
        Check.refuses("owner above", RANGE, () -> x.failed(6, 0));
        Check.refuses("what below", RANGE, () -> x.failed(0, -1));
        Check.refuses("what above", RANGE, () -> x.failed(0, 6));
        Check.is("the last of both", x.failed(5, 5), 0);
    }
}
