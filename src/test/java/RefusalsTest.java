import java.util.NoSuchElementException;

/** "REFUSALS, the first that holds": where two or more hold, and that nothing comes of any of them. */
public final class RefusalsTest {
    private static final Class<IllegalArgumentException> RANGE = IllegalArgumentException.class;
    private static final Class<IllegalStateException> STATE = IllegalStateException.class;
    private static final Class<UnsupportedOperationException> ROOM = UnsupportedOperationException.class;
    private static final Class<NoSuchElementException> NONE = NoSuchElementException.class;
    private static final Twins.Past NEW = Twins.Past.NEW;
    private static final Twins.Past BUSY = Twins.Past.BUSY;
    private static final Twins.Past FULL = Twins.Past.FULL;

    public static void main(String[] args) {
        today();
        rule();
        opOfNoEdition();
        opOutsideItsRange();
        opNotAsItIsNow();
        make();
        handle();
        handleWithoutRoom();
        by();
        compareAndSame();
        shadow();
        told();
        twoNumbersOutside();
        keep();
        divide();
        Check.end("RefusalsTest");
    }

    /** "IllegalArgumentException: also before today." */
    private static void today() {
        Twins.refuse(BUSY, "yesterday", RANGE, x -> x.today(2));
        Twins.refuse(BUSY, "the first day", RANGE, x -> x.today(0));
        Twins.refuse(BUSY, "before the first day", RANGE, x -> x.today(-1));
        Twins.refuse(BUSY, "behind the last day", RANGE, x -> x.today(1001));
        Twins.refuse(FULL, "the day before the last", RANGE, x -> x.today(999));
        Twins.refuse(FULL, "behind the last day", RANGE, x -> x.today(1001));
        Twins.refuse(NEW, "before the first day", RANGE, x -> x.today(-1));
    }

    private static void rule() {
        Twins.refuse(FULL, "no room for an edition", ROOM, x -> x.rule(0, 0, 0));
        Twins.refuse(FULL, "an owner ahead of no room", RANGE, x -> x.rule(6, 0, 0));
        Twins.refuse(FULL, "a kind ahead of no room", RANGE, x -> x.rule(0, 3, 0));
        Twins.refuse(FULL, "a day ahead of no room", RANGE, x -> x.rule(0, 0, 1001));
        Twins.refuse(FULL, "all three ahead of no room", RANGE, x -> x.rule(-1, -1, -1));
    }

    private static void opOfNoEdition() {
        Twins.refuse(NEW, "no edition", NONE, x -> x.op(0, 0, 0));
        Twins.refuse(BUSY, "no edition", NONE, x -> x.op(5, 0, 0));
        Twins.refuse(BUSY, "no edition ahead of an op", NONE, x -> x.op(5, 11, 0));
        Twins.refuse(BUSY, "no edition ahead of a constant", NONE, x -> x.op(-1, 0, 10001));
        Twins.refuse(FULL, "no edition ahead of both", NONE, x -> x.op(24, -1, 10001));
    }

    private static void opOutsideItsRange() {
        Twins.refuse(BUSY, "an op ahead of a made edition", RANGE, x -> x.op(0, 11, 0));
        Twins.refuse(BUSY, "a constant ahead of a made edition", RANGE, x -> x.op(1, 0, -10001));
        Twins.refuse(BUSY, "a fact ahead of a made edition", RANGE, x -> x.op(1, 1, 8));
        Twins.refuse(BUSY, "an op's number ahead of a made edition", RANGE, x -> x.op(1, 8, 16));
        Twins.refuse(BUSY, "a constant of op 9 ahead of a made edition", RANGE, x -> x.op(1, 9, 1));
        Twins.refuse(FULL, "an op ahead of no room", RANGE, x -> x.op(23, 11, 0));
        Twins.refuse(FULL, "a constant ahead of no room", RANGE, x -> x.op(23, 0, 10001));
        Twins.refuse(FULL, "an op ahead of made and no room", RANGE, x -> x.op(0, -1, 0));
        Twins.refuse(FULL, "a constant ahead of made and no room", RANGE, x -> x.op(0, 2, 1));
    }

    /** "IllegalStateException: it is made; UnsupportedOperationException: it has sixteen." */
    private static void opNotAsItIsNow() {
        Twins.refuse(BUSY, "made, with room", STATE, x -> x.op(1, 9, 0));
        Twins.refuse(FULL, "made ahead of no room", STATE, x -> x.op(0, 9, 0));
        Twins.refuse(FULL, "no room", ROOM, x -> x.op(23, 9, 0));
    }

    /** "IllegalStateException: it is made." */
    private static void make() {
        Twins.refuse(NEW, "no edition", NONE, x -> x.make(0));
        Twins.refuse(BUSY, "no edition", NONE, x -> x.make(5));
        Twins.refuse(BUSY, "the first made one", STATE, x -> x.make(0));
        Twins.refuse(BUSY, "the last made one", STATE, x -> x.make(2));
        Twins.refuse(BUSY, "a made one that would fail now", STATE, x -> x.make(1));
        Twins.refuse(FULL, "a made one", STATE, x -> x.make(1));
    }

    /** "IllegalStateException: it is not made." */
    private static void handle() {
        Twins.refuse(NEW, "no edition", NONE, x -> x.handle(0));
        Twins.refuse(BUSY, "no edition", NONE, x -> x.handle(5));
        Twins.refuse(BUSY, "one that could be made", STATE, x -> x.handle(3));
        Twins.refuse(BUSY, "one that could not", STATE, x -> x.handle(4));
        Twins.refuse(FULL, "not made", STATE, x -> x.handle(23));
        RuleClasses x = Twins.with(BUSY);
        x.make(4);
        Check.refuses("a handle behind a making that failed", STATE, () -> x.handle(4));
        x.make(3);
        Check.is("a handle behind one that did not", x.handle(3), 3);
    }

    private static void handleWithoutRoom() {
        RuleClasses x = Twins.with(BUSY);
        for (int n = 3; n <= 10000; n++) {
            x.handle(0);
        }
        Check.refuses("no edition ahead of no room", NONE, () -> x.handle(5));
        Check.refuses("not made ahead of no room", STATE, () -> x.handle(4));
        Check.refuses("no room", ROOM, () -> x.handle(0));
        Check.is("the last one lives on", x.by(10000), 35);
    }

    /** "there never was such a handle; IllegalStateException: it has ended." */
    private static void by() {
        Twins.refuse(NEW, "never was", RANGE, x -> x.by(1));
        Twins.refuse(BUSY, "ended by the next handle", STATE, x -> x.by(1));
        Twins.refuse(BUSY, "never was", RANGE, x -> x.by(3));
        Twins.refuse(BUSY, "number 0", RANGE, x -> x.by(0));
        Twins.refuse(FULL, "ended by the next day", STATE, x -> x.by(1));
        Twins.refuse(FULL, "number 0 when none lives", RANGE, x -> x.by(0));
        Twins.refuse(FULL, "never was", RANGE, x -> x.by(2));
    }

    private static void compareAndSame() {
        Twins.refuse(BUSY, "compare with no other", NONE, x -> x.compare(0, 5));
        Twins.refuse(BUSY, "compare of none", NONE, x -> x.compare(5, 0));
        Twins.refuse(BUSY, "compare of none with itself", NONE, x -> x.compare(5, 5));
        Twins.refuse(NEW, "compare of none, nothing kept", NONE, x -> x.compare(0, 0));
        Twins.refuse(BUSY, "same with no other", NONE, x -> x.same(0, 5));
        Twins.refuse(BUSY, "same of none", NONE, x -> x.same(5, 0));
        Twins.refuse(BUSY, "same of none with itself", NONE, x -> x.same(-1, -1));
    }

    private static void shadow() {
        Twins.refuse(BUSY, "no edition", NONE, x -> x.shadow(0, 0, 5));
        Twins.refuse(BUSY, "no edition below -1", NONE, x -> x.shadow(0, 0, -2));
        Twins.refuse(BUSY, "no edition ahead of an owner", NONE, x -> x.shadow(6, 0, 5));
        Twins.refuse(BUSY, "no edition ahead of a kind", NONE, x -> x.shadow(0, 3, -2));
        Twins.refuse(BUSY, "an owner", RANGE, x -> x.shadow(6, 0, 0));
        Twins.refuse(BUSY, "a kind", RANGE, x -> x.shadow(0, 3, 0));
        Twins.refuse(BUSY, "an owner of none", RANGE, x -> x.shadow(-1, 0, -1));
        Twins.refuse(BUSY, "a kind of none", RANGE, x -> x.shadow(0, -1, -1));
        Twins.refuse(NEW, "no edition ahead of both", NONE, x -> x.shadow(6, 3, 0));
        Twins.refuse(NEW, "both", RANGE, x -> x.shadow(6, 3, -1));
    }

    private static void told() {
        Twins.refuse(NEW, "no edition", NONE, x -> x.told(0, 0));
        Twins.refuse(BUSY, "no edition ahead of a what", NONE, x -> x.told(5, 8));
        Twins.refuse(BUSY, "edition -1 ahead of a what", NONE, x -> x.told(-1, -1));
        Twins.refuse(BUSY, "a what", RANGE, x -> x.told(4, 8));
    }

    /** Numbers that would meet again at another owner's or kind's place. */
    private static void twoNumbersOutside() {
        Twins.refuse(BUSY, "kind 3 of owner 0 is not kind 0 of owner 1", RANGE, x -> x.ask(0, 3));
        Twins.refuse(BUSY, "kind -1 of owner 1 is not kind 2 of owner 0", RANGE, x -> x.ask(1, -1));
        Twins.refuse(BUSY, "owner -1 with kind 3", RANGE, x -> x.ask(-1, 3));
        Twins.refuse(BUSY, "owner 6 with kind -1", RANGE, x -> x.otherwise(6, -1));
        Twins.refuse(BUSY, "owner -1 with kind 5", RANGE, x -> x.otherwise(-1, 5));
        Twins.refuse(BUSY, "failure 6 of owner 0", RANGE, x -> x.failed(0, 6));
        Twins.refuse(BUSY, "failure -1 of owner 1", RANGE, x -> x.failed(1, -1));
        Twins.refuse(BUSY, "failure 6 of owner -1", RANGE, x -> x.failed(-1, 6));
        Twins.refuse(BUSY, "fact 8 with a value", RANGE, x -> x.fact(8, 10001));
        Twins.refuse(BUSY, "kind 3 with a value", RANGE, x -> x.fallback(3, -10001));
        Twins.refuse(BUSY, "an edition of nobody on no day", RANGE, x -> x.edition(6, 3, 1001));
    }

    private static void keep() {
        Twins.refuse(FULL, "no room for a kept question", ROOM, x -> x.keep());
    }

    /** "ArithmeticException (the machine's own): b is 0." */
    private static void divide() {
        for (Twins.Past past : Twins.Past.values()) {
            Twins.refuse(past, "7 by 0", ArithmeticException.class, x -> x.divide(7, 0));
            Twins.refuse(past, "0 by 0", ArithmeticException.class, x -> x.divide(0, 0));
        }
    }
}
