import java.util.ArrayList;
import java.util.NoSuchElementException;

/** Rules of owners as small programs in editions by days; the promises stand in the document. */
public final class RuleClasses {
    private static final int OWNERS = 6;
    private static final int KINDS = 3;
    private static final int LAST_DAY = 1000;
    private static final int FACTS = 8;
    private static final int GREATEST_GIVEN = 10000;
    private static final int GREATEST_VALUE = 1000000000;
    private static final int MOST_STEPS = 1000;
    private static final int MOST_EDITIONS = 24;
    private static final int MOST_OPS = 16;
    private static final int MOST_PUT = 8;
    private static final int MOST_KEPT = 8;
    private static final int MOST_HANDLES = 10000;
    private static final int LAST_TOLD = 7;

    private static final int PUT_CONSTANT = 0;
    private static final int PUT_FACT = 1;
    private static final int ADD = 2;
    private static final int SUBTRACT = 3;
    private static final int MULTIPLY = 4;
    private static final int QUOTIENT = 5;
    private static final int LESS = 6;
    private static final int PUT_AGAIN = 7;
    private static final int JUMP_IF_ZERO = 8;
    private static final int ANSWER = 9;
    private static final int PUT_ASKED = 10;

    // How a question ends: 0 to 5 are the numbers by which failures are told.
    private static final int NO_EDITION = 0;
    private static final int NO_STEPS_LEFT = 1;
    private static final int DIVISOR_ZERO = 2;
    private static final int WRONG_HEIGHT = 3;
    private static final int NO_NEXT_OP = 4;
    private static final int VALUE_TOO_FAR = 5;
    private static final int ANSWERED = 6;
    private static final int GOES_ON = 7;
    private static final int FAILURES = 6;

    private static final int NOBODY = -1;

    private final int most;
    private final ArrayList<Edition> editions = new ArrayList<>();
    private final ArrayList<Facts> kept = new ArrayList<>();
    private final Facts facts = new Facts();
    private final Run run;
    private final Run runBeside;
    private final int[] fallbacks = new int[KINDS];
    private final int[] failures = new int[OWNERS * FAILURES];
    private final int[] shadows = new int[OWNERS * KINDS];
    private final int[] differences = new int[OWNERS * KINDS];
    private int day;
    private int questions;
    private int handles;
    private int livingHandle;
    private int handledEdition;

    public RuleClasses(int steps) {
        most = Math.max(0, Math.min(steps, MOST_STEPS));
        run = new Run(most);
        runBeside = new Run(most);
        for (int place = 0; place < shadows.length; place++) {
            shadows[place] = NOBODY;
        }
    }

    public void today(int day) throws IllegalArgumentException {
        requireRange(day, this.day, LAST_DAY);
        endHandle();
        this.day = day;
    }

    public int rule(int owner, int kind, int day)
            throws IllegalArgumentException, UnsupportedOperationException {
        requireOwnerAndKind(owner, kind);
        requireRange(day, 0, LAST_DAY);
        if (editions.size() >= MOST_EDITIONS) {
            throw new UnsupportedOperationException("no room for an edition");
        }
        editions.add(new Edition(owner, kind, day));
        return editions.size() - 1;
    }

    public int op(int edition, int op, int constant)
            throws NoSuchElementException, IllegalArgumentException, IllegalStateException,
            UnsupportedOperationException {
        Edition written = editionAt(edition);
        requireRange(op, PUT_CONSTANT, PUT_ASKED);
        requireRange(constant, leastConstant(op), greatestConstant(op));
        requireNotMade(written);
        if (written.length >= MOST_OPS) {
            throw new UnsupportedOperationException("no room for an op");
        }
        written.append(op, constant);
        return written.length;
    }

    public int make(int edition) throws NoSuchElementException, IllegalStateException {
        Edition tried = editionAt(edition);
        requireNotMade(tried);
        endHandle();
        run.start(tried, facts);
        if (run.outcome != ANSWERED) {
            return -run.outcome;
        }
        tried.made = true;
        return 0;
    }

    public void fact(int fact, int value) throws IllegalArgumentException {
        requireRange(fact, 0, FACTS - 1);
        requireRange(value, -GREATEST_GIVEN, GREATEST_GIVEN);
        facts.values[fact] = value;
    }

    public int ask(int owner, int kind) throws IllegalArgumentException {
        requireOwnerAndKind(owner, kind);
        endHandle();
        questions++;
        int number = countingEdition(owner, kind, day);
        if (number == NOBODY) {
            run.startNothing();
        } else {
            run.start(editions.get(number), facts);
        }
        // The shadow goes ahead of the counting: its op 10 must not see this question.
        runShadow(place(owner, kind));
        if (number != NOBODY) {
            editions.get(number).noteQuestion(run);
        }
        if (run.outcome == ANSWERED) {
            return run.answer;
        }
        failures[owner * FAILURES + run.outcome]++;
        return fallbacks[kind];
    }

    public void fallback(int kind, int value) throws IllegalArgumentException {
        requireRange(kind, 0, KINDS - 1);
        requireRange(value, -GREATEST_GIVEN, GREATEST_GIVEN);
        fallbacks[kind] = value;
    }

    public int edition(int owner, int kind, int day) throws IllegalArgumentException {
        requireOwnerAndKind(owner, kind);
        requireRange(day, 0, LAST_DAY);
        return countingEdition(owner, kind, day);
    }

    public int failed(int owner, int what) throws IllegalArgumentException {
        requireRange(owner, 0, OWNERS - 1);
        requireRange(what, 0, FAILURES - 1);
        return failures[owner * FAILURES + what];
    }

    public int handle(int edition)
            throws NoSuchElementException, IllegalStateException, UnsupportedOperationException {
        if (!editionAt(edition).made) {
            throw new IllegalStateException("the edition is not made");
        }
        if (handles >= MOST_HANDLES) {
            throw new UnsupportedOperationException("no room for a handle");
        }
        handles++;
        livingHandle = handles;
        handledEdition = edition;
        return handles;
    }

    public int by(int handle) throws IllegalArgumentException, IllegalStateException {
        requireRange(handle, 1, handles);
        if (handle != livingHandle) {
            throw new IllegalStateException("the handle has ended");
        }
        Edition handled = editionAt(handledEdition);
        run.start(handled, facts);
        return run.outcome == ANSWERED ? run.answer : fallbacks[handled.kind];
    }

    public int keep() throws UnsupportedOperationException {
        if (kept.size() >= MOST_KEPT) {
            throw new UnsupportedOperationException("no room for a kept question");
        }
        kept.add(facts.copy());
        return kept.size();
    }

    public int compare(int edition, int other) throws NoSuchElementException {
        Edition one = editionAt(edition);
        Edition another = editionAt(other);
        int unlike = 0;
        for (int question = 0; question < kept.size(); question++) {
            run.start(one, kept.get(question));
            runBeside.start(another, kept.get(question));
            if (!run.endedLike(runBeside)) {
                unlike++;
            }
        }
        return unlike;
    }

    public boolean same(int edition, int other) throws NoSuchElementException {
        Edition one = editionAt(edition);
        Edition another = editionAt(other);
        return one.hasCodeOf(another);
    }

    public void shadow(int owner, int kind, int edition)
            throws NoSuchElementException, IllegalArgumentException {
        if (edition != NOBODY) {
            requireEdition(edition);
        }
        requireOwnerAndKind(owner, kind);
        shadows[place(owner, kind)] = edition;
        differences[place(owner, kind)] = 0;
    }

    public int otherwise(int owner, int kind) throws IllegalArgumentException {
        requireOwnerAndKind(owner, kind);
        return differences[place(owner, kind)];
    }

    public int divide(int a, int b) throws ArithmeticException {
        if (b == 0) {
            throw new ArithmeticException("/ by zero");
        }
        return a / b;
    }

    public int told(int edition, int what) throws NoSuchElementException, IllegalArgumentException {
        Edition asked = editionAt(edition);
        requireRange(what, 0, LAST_TOLD);
        return asked.tell(what);
    }

    public int count(int what) {
        switch (what) {
            case 0:
                return editions.size();
            case 1:
                return madeEditions();
            case 2:
                return questions;
            case 3:
                return failedQuestions();
            case 4:
                return kept.size();
            case 5:
                return handles;
            case 6:
                return day;
            case 7:
                return most;
            default:
                return -1;
        }
    }

    private static void requireRange(int number, int least, int greatest) {
        if (number < least || number > greatest) {
            throw new IllegalArgumentException("a number outside its range");
        }
    }

    private static void requireOwnerAndKind(int owner, int kind) {
        requireRange(owner, 0, OWNERS - 1);
        requireRange(kind, 0, KINDS - 1);
    }

    private static void requireNotMade(Edition edition) {
        if (edition.made) {
            throw new IllegalStateException("the edition is made");
        }
    }

    private void requireEdition(int number) {
        if (number < 0 || number >= editions.size()) {
            throw new NoSuchElementException("no such edition");
        }
    }

    private Edition editionAt(int number) {
        requireEdition(number);
        return editions.get(number);
    }

    private static int leastConstant(int op) {
        return op == PUT_CONSTANT ? -GREATEST_GIVEN : 0;
    }

    private static int greatestConstant(int op) {
        switch (op) {
            case PUT_CONSTANT:
                return GREATEST_GIVEN;
            case PUT_FACT:
                return FACTS - 1;
            case JUMP_IF_ZERO:
                return MOST_OPS - 1;
            default:
                return 0;
        }
    }

    private static int place(int owner, int kind) {
        return owner * KINDS + kind;
    }

    private void endHandle() {
        livingHandle = 0;
    }

    private int countingEdition(int owner, int kind, int onDay) {
        int best = NOBODY;
        int bestDay = 0;
        for (int number = 0; number < editions.size(); number++) {
            Edition candidate = editions.get(number);
            // Not less: of equal days the greatest number counts.
            if (candidate.countsFor(owner, kind, onDay) && candidate.day >= bestDay) {
                best = number;
                bestDay = candidate.day;
            }
        }
        return best;
    }

    private void runShadow(int place) {
        int number = shadows[place];
        if (number < 0 || number >= editions.size()) {
            return;
        }
        runBeside.start(editions.get(number), facts);
        if (!run.endedLike(runBeside)) {
            differences[place]++;
        }
    }

    private int madeEditions() {
        int made = 0;
        for (int number = 0; number < editions.size(); number++) {
            if (editions.get(number).made) {
                made++;
            }
        }
        return made;
    }

    private int failedQuestions() {
        int sum = 0;
        for (int index = 0; index < failures.length; index++) {
            sum += failures[index];
        }
        return sum;
    }

    private static final class Facts {
        final int[] values = new int[FACTS];

        Facts copy() {
            Facts twin = new Facts();
            System.arraycopy(values, 0, twin.values, 0, FACTS);
            return twin;
        }
    }

    private static final class Edition {
        final int owner;
        final int kind;
        final int day;
        final int[] ops = new int[MOST_OPS];
        final int[] constants = new int[MOST_OPS];
        int length;
        boolean made;
        int timesAsked;
        int stepsAsked;
        int timesFailed;

        Edition(int owner, int kind, int day) {
            this.owner = owner;
            this.kind = kind;
            this.day = day;
        }

        void append(int op, int constant) {
            if (length < MOST_OPS) {
                ops[length] = op;
                constants[length] = constant;
                length++;
            }
        }

        boolean countsFor(int anOwner, int aKind, int onDay) {
            return made && owner == anOwner && kind == aKind && day <= onDay;
        }

        boolean hasCodeOf(Edition other) {
            if (length != other.length) {
                return false;
            }
            for (int number = 0; number < length; number++) {
                if (ops[number] != other.ops[number]
                        || constants[number] != other.constants[number]) {
                    return false;
                }
            }
            return true;
        }

        void noteQuestion(Run run) {
            timesAsked++;
            stepsAsked += run.steps;
            if (run.outcome != ANSWERED) {
                timesFailed++;
            }
        }

        int tell(int what) {
            switch (what) {
                case 0:
                    return owner;
                case 1:
                    return kind;
                case 2:
                    return day;
                case 3:
                    return length;
                case 4:
                    return made ? 1 : 0;
                case 5:
                    return timesAsked;
                case 6:
                    return stepsAsked;
                default:
                    return timesFailed;
            }
        }
    }

    /** A run of a code and how it ended; it is started again and again, so that no run makes objects. */
    private static final class Run {
        final int most;
        final int[] stack = new int[MOST_PUT];
        int height;
        int next;
        int outcome;
        int answer;
        int steps;

        Run(int most) {
            this.most = most;
        }

        void startNothing() {
            clear();
            outcome = NO_EDITION;
        }

        void start(Edition edition, Facts facts) {
            clear();
            outcome = outcomeOf(edition, facts);
        }

        boolean endedLike(Run other) {
            return outcome == other.outcome && answer == other.answer;
        }

        private void clear() {
            height = 0;
            next = 0;
            steps = 0;
            // Two that fail alike are alike: no answer of an earlier run may stay.
            answer = 0;
        }

        private int outcomeOf(Edition edition, Facts facts) {
            for (int left = most; left > 0; left--) {
                if (next < 0 || next >= edition.length) {
                    return NO_NEXT_OP;
                }
                steps++;
                int now = next;
                next++;
                int end = step(edition, now, facts);
                if (end != GOES_ON) {
                    return end;
                }
            }
            return NO_STEPS_LEFT;
        }

        private int step(Edition edition, int now, Facts facts) {
            int code = edition.ops[now];
            int constant = edition.constants[now];
            if (height < needed(code)) {
                return WRONG_HEIGHT;
            }
            switch (code) {
                case PUT_CONSTANT:
                    return put(constant);
                case PUT_FACT:
                    return put(facts.values[constant]);
                case PUT_AGAIN:
                    return put(stack[height - 1]);
                case PUT_ASKED:
                    return put(edition.timesAsked);
                case JUMP_IF_ZERO:
                    if (take() == 0) {
                        next = constant;
                    }
                    return GOES_ON;
                case ANSWER:
                    answer = take();
                    return ANSWERED;
                default:
                    return join(code);
            }
        }

        private static int needed(int code) {
            switch (code) {
                case PUT_CONSTANT:
                case PUT_FACT:
                case PUT_ASKED:
                    return 0;
                case PUT_AGAIN:
                case JUMP_IF_ZERO:
                case ANSWER:
                    return 1;
                default:
                    return 2;
            }
        }

        private int join(int code) {
            // Long: a product of two values does not fit an int.
            long upper = take();
            long lower = take();
            switch (code) {
                case ADD:
                    return put(lower + upper);
                case SUBTRACT:
                    return put(lower - upper);
                case MULTIPLY:
                    return put(lower * upper);
                case QUOTIENT:
                    return upper == 0 ? DIVISOR_ZERO : put(lower / upper);
                case LESS:
                default:
                    return put(lower < upper ? 1 : 0);
            }
        }

        private int take() {
            if (height <= 0) {
                return 0;
            }
            height--;
            return stack[height];
        }

        private int put(long value) {
            if (value < -GREATEST_VALUE || value > GREATEST_VALUE) {
                return VALUE_TOO_FAR;
            }
            if (height >= MOST_PUT) {
                return WRONG_HEIGHT;
            }
            stack[height] = (int) value;
            height++;
            return GOES_ON;
        }
    }
}
