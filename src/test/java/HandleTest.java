import java.util.NoSuchElementException;

/** Promises 11 and 12: handle, by. */
public final class HandleTest {
    private static final Class<IllegalArgumentException> RANGE = IllegalArgumentException.class;
    private static final Class<IllegalStateException> STATE = IllegalStateException.class;
    private static final Class<NoSuchElementException> NONE = NoSuchElementException.class;

    public static void main(String[] args) {
        promise11();
        promise11Ends();
        promise11LivesOn();
        promise11Room();
        promise12();
        promise12NotCounted();
        Check.end("HandleTest");
    }

    private static void promise11() {
        RuleClasses x = new RuleClasses(20);
        Check.refuses("no edition", NONE, () -> x.handle(0));
        Check.refuses("edition -1", NONE, () -> x.handle(-1));
        int edition = Check.written(x, 0, 0, 0, 0, 5, 9, 0);
        Check.refuses("not made", STATE, () -> x.handle(edition));
        Check.is("no handle by refusals", x.count(5), 0);
        x.make(edition);
        Check.is("the first", x.handle(edition), 1);
        Check.is("the second", x.handle(edition), 2);
        Check.refuses("the first has ended", STATE, () -> x.by(1));
        Check.is("the second lives", x.by(2), 5);
        Check.is("handles", x.count(5), 2);
        int another = Check.made(x, 3, 1, 0, 0, 8, 9, 0);
        Check.is("a handle of another edition", x.handle(another), 3);
        Check.is("its answer", x.by(3), 8);
        x.handle(edition);
        Check.is("the first edition's answer again", x.by(4), 5);
    }

    private interface Use {
        void of(RuleClasses x);
    }

    /** Two editions, the first made, the second not; a handle of the first. */
    private static RuleClasses withHandle() {
        RuleClasses x = new RuleClasses(20);
        Check.made(x, 0, 0, 0, 0, 5, 9, 0);
        Check.written(x, 0, 0, 0, 0, 6, 9, 0);
        x.rule(0, 0, 0);
        x.handle(0);
        return x;
    }

    private static void ends(String what, Use use) {
        RuleClasses x = withHandle();
        use.of(x);
        Check.refuses("by after " + what, STATE, () -> x.by(1));
    }

    private static void livesOn(String what, Use use) {
        RuleClasses x = withHandle();
        use.of(x);
        Check.is("by after " + what, x.by(1), 5);
    }

    private static void promise11Ends() {
        ends("a question", x -> x.ask(0, 0));
        ends("a question without an edition", x -> x.ask(5, 2));
        ends("a making", x -> Check.is("make", x.make(1), 0));
        ends("a making that fails", x -> Check.is("make", x.make(2), -4));
        ends("a day", x -> x.today(1));
        ends("the same day again", x -> x.today(0));
        ends("a handle", x -> x.handle(0));
    }

    private static void promise11LivesOn() {
        livesOn("nothing", x -> { });
        livesOn("by", x -> x.by(1));
        livesOn("a fact", x -> x.fact(0, 4));
        livesOn("a fallback", x -> x.fallback(0, 4));
        livesOn("a rule", x -> x.rule(0, 0, 0));
        livesOn("an op", x -> x.op(1, 0, 4));
        livesOn("a kept question and a comparison", x -> {
            x.keep();
            x.compare(0, 1);
            x.same(0, 1);
        });
        livesOn("a shadow", x -> x.shadow(0, 0, 1));
        livesOn("tellings", x -> {
            x.edition(0, 0, 0);
            x.failed(0, 0);
            x.otherwise(0, 0);
            x.told(0, 5);
            x.count(5);
            x.divide(7, 2);
        });
        livesOn("a refused question", x -> Check.refuses("ask", RANGE, () -> x.ask(6, 0)));
        livesOn("a refused making", x -> Check.refuses("make", STATE, () -> x.make(0)));
        livesOn("a making of none", x -> Check.refuses("make", NONE, () -> x.make(3)));
        livesOn("a refused day", x -> Check.refuses("today", RANGE, () -> x.today(1001)));
        livesOn("a refused handle", x -> Check.refuses("handle", STATE, () -> x.handle(1)));
        livesOn("a handle of none", x -> Check.refuses("handle", NONE, () -> x.handle(3)));
    }

    /** More calls than are promised: the limit of handles is only seen beyond them. */
    private static void promise11Room() {
        RuleClasses x = withHandle();
        for (int n = 2; n <= 10000; n++) {
            x.handle(0);
        }
        Check.is("the last handle", x.by(10000), 5);
        Check.refuses("no room", UnsupportedOperationException.class, () -> x.handle(0));
        Check.refuses("not made ahead of room", STATE, () -> x.handle(1));
        Check.refuses("no edition ahead of room", NONE, () -> x.handle(3));
        Check.is("the last lives on", x.by(10000), 5);
    }

    private static void promise12() {
        RuleClasses x = withHandle();
        Check.refuses("handle 0", RANGE, () -> x.by(0));
        Check.refuses("handle -1", RANGE, () -> x.by(-1));
        Check.refuses("handle 2", RANGE, () -> x.by(2));
        Check.refuses("the least number", RANGE, () -> x.by(Integer.MIN_VALUE));
        Check.refuses("the greatest number", RANGE, () -> x.by(Integer.MAX_VALUE));
        x.ask(0, 0);
        Check.refuses("ended", STATE, () -> x.by(1));
        Check.refuses("never was", RANGE, () -> x.by(2));
        Check.refuses("handle 0 when all ended", RANGE, () -> x.by(0));
        RuleClasses none = new RuleClasses(5);
        Check.refuses("no handle yet", RANGE, () -> none.by(1));
        Check.refuses("handle 0 of none", RANGE, () -> none.by(0));
    }

    private static void promise12NotCounted() {
        RuleClasses x = new RuleClasses(20);
        x.fact(0, 2);
        // Answers 100 * asked + 12 / fact 0.
        int edition = Check.made(x, 1, 2, 7, 0, 100, 10, 0, 4, 0, 0, 12, 1, 0, 5, 0, 2, 0, 9, 0);
        Check.is("a handle of one that does not count yet", x.handle(edition), 1);
        Check.is("by", x.by(1), 6);
        Check.is("by once more: nobody asked", x.by(1), 6);
        x.fact(0, 3);
        Check.is("with the facts as they are", x.by(1), 4);
        x.fact(0, 0);
        x.fallback(0, 40);
        x.fallback(1, 41);
        x.fallback(2, 42);
        Check.is("the fallback of its kind", x.by(1), 42);
        x.shadow(1, 2, edition);
        x.by(1);
        for (int what = 5; what <= 7; what++) {
            Check.is("told of what is not counted", x.told(edition, what), 0);
        }
        Check.is("no question", x.count(2), 0);
        Check.is("nobody failed", x.count(3), 0);
        Check.is("nobody failed by 2", x.failed(1, 2), 0);
        Check.is("no shadow of it", x.otherwise(1, 2), 0);
        x.fact(0, 1);
        x.today(7);
        Check.is("asked for the first time", x.ask(1, 2), 12);
        x.handle(edition);
        Check.is("by puts how often it was asked", x.by(2), 112);
    }
}
