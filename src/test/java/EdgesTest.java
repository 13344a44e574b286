/** The edges that the promises name beside ranges and limits: none, equal, the first, the last, failing. */
public final class EdgesTest {
    private static final int[][] FAILING = {
        {1, 0, 8, 0, 0, 5, 9, 0},
        {0, 12, 1, 0, 5, 0, 9, 0},
        {1, 0, 8, 3, 0, 5, 9, 0},
        {1, 0, 8, 15, 0, 5, 9, 0},
        {1, 0, 0, 9, 6, 0, 8, 6, 0, 5, 9, 0, 0, 10000, 7, 0, 4, 0, 7, 0, 4, 0, 9, 0}};
    // The facts 0 at which the codes answer and at which they fail.
    private static final int[] ANSWERING = {1, 1, 1, 1, 0};
    private static final int[] FAILING_AT = {0, 0, 0, 0, 9};

    public static void main(String[] args) {
        newObject();
        todayGoesOn();
        makingThatFails();
        makingWithTheFactsAsTheyAre();
        questionsThatFail();
        questionsWithoutAnEdition();
        editionsByDays();
        editionsOfOneDay();
        editionsThatAreNotMade();
        editionsOfTheFirstAndLastDay();
        endsOfHandles();
        handlesThatFail();
        keptFacts();
        sameCodes();
        shadowsAnew();
        divisions();
        readingChangesNothing();
        calls512();
        Check.end("EdgesTest");
    }

    /** "No editions; so many steps." */
    private static void newObject() {
        RuleClasses x = new RuleClasses(77);
        int[] due = {0, 0, 0, 0, 0, 0, 0, 77};
        for (int what = 0; what < 8; what++) {
            Check.is("count(" + what + ") of a new object", x.count(what), due[what]);
        }
        Check.is("its first edition is 0", x.rule(0, 0, 0), 0);
        Check.is("its first kept question is 1", x.keep(), 1);
    }

    /** "today is 0 at first and goes on" */
    private static void todayGoesOn() {
        RuleClasses x = new RuleClasses(5);
        int[] days = {0, 0, 1, 1, 499, 500, 999, 1000, 1000};
        for (int day : days) {
            x.today(day);
            Check.is("today", x.count(6), day);
            Check.refuses("the day before", IllegalArgumentException.class, () -> x.today(day - 1));
            Check.is("today still", x.count(6), day);
        }
    }

    /** "or less the number of how it fails (it is as it was, nobody's failure)" */
    private static void makingThatFails() {
        for (int failure = 1; failure <= 5; failure++) {
            RuleClasses x = new RuleClasses(20);
            x.fact(0, FAILING_AT[failure - 1]);
            int edition = Check.written(x, 3, 1, 0, FAILING[failure - 1]);
            Check.is("how it fails", x.make(edition), -failure);
            Check.is("how it fails again", x.make(edition), -failure);
            for (int what = 4; what <= 7; what++) {
                Check.is("as it was: told " + what, x.told(edition, what), 0);
            }
            Check.is("nobody's failure", x.failed(3, failure), 0);
            Check.is("no question", x.count(2) + x.count(3) + x.count(1), 0);
            x.fact(0, ANSWERING[failure - 1]);
            Check.is("it can be made later", x.make(edition), 0);
        }
        // A day ends the handle, as the making does; beside it nothing may have come of the making.
        Twins.alike(Twins.Past.BUSY, "a making that fails", x -> Check.is("make", x.make(4), -4),
                x -> x.today(3));
        Twins.alike(Twins.Past.FULL, "a making that fails", x -> Check.is("make", x.make(21), -4),
                x -> x.today(1000));
    }

    private static void makingWithTheFactsAsTheyAre() {
        RuleClasses x = new RuleClasses(20);
        int edition = Check.written(x, 0, 0, 500, FAILING[1]);
        x.fact(0, 1);
        x.keep();
        x.fact(0, 0);
        Check.is("not with kept facts", x.make(edition), -2);
        x.fact(0, -1);
        Check.is("ahead of its day", x.make(edition), 0);
        Check.is("made", x.count(1), 1);
    }

    /** "if it fails .. the kind's fallback", "How often an owner's questions failed by a failure 1 .. 5" */
    private static void questionsThatFail() {
        for (int failure = 1; failure <= 5; failure++) {
            RuleClasses x = new RuleClasses(20);
            x.fact(0, ANSWERING[failure - 1]);
            int edition = Check.made(x, 5, 2, 0, FAILING[failure - 1]);
            int answer = x.ask(5, 2);
            x.fact(0, FAILING_AT[failure - 1]);
            Check.is("the fallback at first", x.ask(5, 2), 0);
            x.fallback(2, -10000);
            Check.is("the fallback", x.ask(5, 2), -10000);
            for (int what = 0; what <= 5; what++) {
                Check.is("failed by " + what, x.failed(5, what), what == failure ? 2 : 0);
                Check.is("nobody else's", x.failed(4, what), 0);
            }
            Check.is("told", x.told(edition, 7), 2);
            Check.is("failed questions", x.count(3), 2);
            Check.is("still made", x.edition(5, 2, 0), edition);
            x.fact(0, ANSWERING[failure - 1]);
            Check.is("an answer again", x.ask(5, 2), answer);
            Check.is("asked", x.told(edition, 5), 4);
        }
    }

    /** "or had no edition (0)" */
    private static void questionsWithoutAnEdition() {
        RuleClasses x = new RuleClasses(20);
        int edition = Check.made(x, 0, 0, 2, 0, 5, 9, 0);
        x.fallback(0, 10000);
        Check.is("its day is behind today", x.ask(0, 0), 10000);
        x.today(1);
        Check.is("by one day", x.ask(0, 0), 10000);
        x.today(2);
        Check.is("it is today", x.ask(0, 0), 5);
        Check.is("no edition twice", x.failed(0, 0), 2);
        Check.is("with those without an edition", x.count(3), 2);
        Check.is("the edition never failed", x.told(edition, 7), 0);
        Check.is("and was asked once", x.told(edition, 5), 1);
        Check.is("with its steps alone", x.told(edition, 6), 2);
    }

    /** "its day is not behind it; of those of one owner and kind the one with the latest day" */
    private static void editionsByDays() {
        RuleClasses x = new RuleClasses(20);
        int[] days = {10, 30, 20};
        for (int day : days) {
            Check.made(x, 1, 1, day, 0, day, 9, 0);
        }
        int[] on = {0, 9, 10, 11, 19, 20, 21, 29, 30, 31, 1000};
        int[] due = {-1, -1, 0, 0, 0, 2, 2, 2, 1, 1, 1};
        int[] answers = {0, 0, 10, 10, 10, 20, 20, 20, 30, 30, 30};
        for (int i = 0; i < on.length; i++) {
            Check.is("edition on day " + on[i], x.edition(1, 1, on[i]), due[i]);
        }
        for (int i = 0; i < on.length; i++) {
            x.today(on[i]);
            Check.is("answer on day " + on[i], x.ask(1, 1), answers[i]);
            Check.is("a day that was or will be", x.edition(1, 1, 20), 2);
        }
        Check.is("another kind", x.edition(1, 0, 1000), -1);
        Check.is("another owner", x.edition(0, 1, 1000), -1);
    }

    /** "of equal ones the greatest number" */
    private static void editionsOfOneDay() {
        int[][] orders = {{0, 1, 2}, {0, 2, 1}, {1, 0, 2}, {1, 2, 0}, {2, 0, 1}, {2, 1, 0}};
        for (int[] order : orders) {
            RuleClasses x = new RuleClasses(20);
            for (int n = 0; n < 3; n++) {
                Check.written(x, 0, 0, 4, 0, n, 9, 0);
            }
            int greatest = -1;
            for (int edition : order) {
                Check.is("make", x.make(edition), 0);
                greatest = Math.max(greatest, edition);
                Check.is("the greatest that is made", x.edition(0, 0, 4), greatest);
                Check.is("none the day before", x.edition(0, 0, 3), -1);
            }
        }
    }

    /** "An edition COUNTS on a day if it is made" */
    private static void editionsThatAreNotMade() {
        RuleClasses x = new RuleClasses(20);
        int made = Check.made(x, 0, 0, 0, 0, 1, 9, 0);
        Check.written(x, 0, 0, 0, 0, 2, 9, 0);
        Check.written(x, 0, 0, 5, 0, 3, 9, 0);
        Check.is("a greater number is not made", x.edition(0, 0, 0), made);
        Check.is("nor is a later day", x.edition(0, 0, 5), made);
        x.make(2);
        Check.is("now it is", x.edition(0, 0, 5), 2);
        Check.is("but its day is later", x.edition(0, 0, 4), made);
    }

    private static void editionsOfTheFirstAndLastDay() {
        RuleClasses x = new RuleClasses(20);
        Check.made(x, 0, 0, 0, 0, 1, 9, 0);
        Check.made(x, 0, 0, 1000, 0, 2, 9, 0);
        Check.is("the first day", x.edition(0, 0, 0), 0);
        Check.is("the day before the last", x.edition(0, 0, 999), 0);
        Check.is("the last day", x.edition(0, 0, 1000), 1);
        x.today(999);
        Check.is("asked the day before the last", x.ask(0, 0), 1);
        x.today(1000);
        Check.is("asked on the last day", x.ask(0, 0), 2);
    }

    /** "It ends with the next question, making (that fails, too), day or handle." */
    private static void endsOfHandles() {
        Twins.Use[] ends = {x -> x.ask(0, 0), x -> x.ask(4, 1), x -> x.make(3), x -> x.make(4),
            x -> x.today(4), x -> x.today(3), x -> x.handle(0), x -> x.handle(2)};
        for (int i = 0; i < ends.length; i++) {
            RuleClasses x = Twins.with(Twins.Past.BUSY);
            Check.is("it lives", x.by(2), 35);
            ends[i].of(x);
            Check.refuses("ended by " + i, IllegalStateException.class, () -> x.by(2));
            Check.refuses("an earlier one does not come back", IllegalStateException.class, () -> x.by(1));
            Check.is("a new one has the next number", x.handle(0), i < 6 ? 3 : 4);
        }
    }

    /** "or the fallback of its kind if it fails" */
    private static void handlesThatFail() {
        RuleClasses x = Twins.with(Twins.Past.BUSY);
        Check.is("it fails by fact 0 at 0: the fallback of kind 0", x.by(x.handle(1)), 7);
        x.fact(0, 1);
        Check.is("it answers by the same handle", x.by(3), 12);
        x.fact(0, 0);
        x.fallback(0, -10000);
        Check.is("the fallback as it is now", x.by(3), -10000);
        Twins.alike(Twins.Past.BUSY, "by a handle that fails", y -> y.by(y.handle(1)), y -> y.handle(1));
    }

    /** "The facts as they are are a kept question" */
    private static void keptFacts() {
        RuleClasses x = new RuleClasses(20);
        int sum = Check.made(x, 0, 0, 0, Twins.SUM_OF_FACTS);
        for (int fact = 0; fact < 8; fact++) {
            x.fact(fact, 1 << fact);
        }
        x.keep();
        for (int fact = 0; fact < 8; fact++) {
            x.fact(fact, -10000);
        }
        int all = Check.made(x, 0, 0, 0, 0, 255, 9, 0);
        Check.is("each of the eight facts is kept", x.compare(sum, all), 0);
        Check.is("and the facts are others now", x.by(x.handle(sum)), -80000);
    }

    /** "Whether two editions have the same code." */
    private static void sameCodes() {
        for (int length = 0; length <= 16; length++) {
            RuleClasses x = new RuleClasses(20);
            for (int edition = 0; edition < 4; edition++) {
                x.rule(edition, 0, edition);
                for (int n = 0; n < length; n++) {
                    boolean last = n == length - 1;
                    x.op(edition, last && edition == 2 ? 1 : 0, last && edition == 3 ? 7 : 6);
                }
            }
            Check.is("two codes of " + length, x.same(0, 1), true);
            Check.is("another last op of " + length, x.same(0, 2), length == 0);
            Check.is("another last constant of " + length, x.same(0, 3), length == 0);
            if (length < 16) {
                x.op(1, 0, 0);
                Check.is("one more than " + length, x.same(0, 1), false);
                Check.is("one less than " + (length + 1), x.same(1, 0), false);
            }
        }
    }

    /** "(instead of another one)", "is counted anew", "-1: none does" */
    private static void shadowsAnew() {
        RuleClasses x = Twins.with(Twins.Past.BUSY);
        Check.is("otherwise till now", x.otherwise(0, 0), 2);
        x.shadow(0, 0, 2);
        Check.is("the same one, anew", x.otherwise(0, 0), 0);
        Check.is("others as they were", x.otherwise(5, 2) + x.otherwise(2, 1), 2);
        x.ask(0, 0);
        Check.is("it was otherwise", x.otherwise(0, 0), 1);
        x.shadow(0, 0, 1);
        Check.is("another one, anew", x.otherwise(0, 0), 0);
        x.ask(0, 0);
        Check.is("it fails as the question does", x.otherwise(0, 0), 0);
        x.shadow(0, 0, 2);
        x.ask(0, 0);
        x.shadow(0, 0, -1);
        Check.is("none, anew", x.otherwise(0, 0), 0);
        x.ask(0, 0);
        Check.is("none is otherwise", x.otherwise(0, 0), 0);
        x.shadow(0, 0, -1);
        Check.is("none instead of none", x.otherwise(0, 0), 0);
        Twins.alike(Twins.Past.NEW, "none instead of none", y -> y.shadow(5, 2, -1), y -> { });
    }

    /** "a by b (rests are dropped). ArithmeticException (the machine's own): b is 0." */
    private static void divisions() {
        RuleClasses x = new RuleClasses(0);
        int least = Integer.MIN_VALUE;
        int greatest = Integer.MAX_VALUE;
        int[][] rows = {{7, 1, 7}, {7, -1, -7}, {0, 1, 0}, {0, -1, 0}, {6, 7, 0}, {7, 7, 1}, {8, 7, 1},
            {-6, 7, 0}, {-7, 7, -1}, {13, 7, 1}, {14, 7, 2}, {greatest, greatest, 1}, {greatest, least, 0},
            {least, greatest, -1}, {least, least, 1}, {least, 1, least}, {greatest, -1, -greatest},
            {least, 2, -1073741824}, {1, greatest, 0}, {-1, least, 0}};
        for (int[] row : rows) {
            Check.is(row[0] + " by " + row[1], x.divide(row[0], row[1]), row[2]);
        }
        Check.is("the least by -1 wraps around", x.divide(least, -1), least);
        int[] divided = {least, -1, 0, 1, greatest};
        for (int a : divided) {
            Check.refuses(a + " by 0", ArithmeticException.class, () -> x.divide(a, 0));
        }
    }

    /** "asked by nobody (it is not counted)", "(Nobody is asked by it ..)", and what only tells. */
    private static void readingChangesNothing() {
        Twins.Use[] readings = {
            x -> x.by(2), x -> x.compare(0, 2), x -> x.compare(4, 4), x -> x.same(0, 1),
            x -> x.edition(0, 0, 1000), x -> x.failed(0, 2), x -> x.otherwise(0, 0), x -> x.told(1, 6),
            x -> x.count(3), x -> x.divide(7, 2)};
        for (int i = 0; i < readings.length; i++) {
            Twins.alike(Twins.Past.BUSY, "reading " + i, readings[i], x -> { });
        }
        Twins.alike(Twins.Past.BUSY, "the same fact again", x -> x.fact(0, 0), x -> { });
        Twins.alike(Twins.Past.BUSY, "the same fallback again", x -> x.fallback(2, 9), x -> { });
    }

    /** "at most 512 calls": the last of them still answers as is due. */
    private static void calls512() {
        RuleClasses x = new RuleClasses(2000);
        x.fact(0, 166);
        int edition = Check.made(x, 0, 0, 0, 10, 0, 9, 0);
        for (int call = 6; call <= 510; call++) {
            Check.is("call " + call, x.ask(0, 0), call - 6);
        }
        Check.is("call 511", x.told(edition, 5), 505);
        Check.is("call 512", x.told(edition, 6), 1010);
    }
}
