import java.util.ArrayDeque;
import java.util.ArrayList;
import java.util.Arrays;
import java.util.HashMap;
import java.util.List;
import java.util.Map;
import java.util.NoSuchElementException;

/**
 * The document once more, written another way: every question goes into a log, and what is told
 * is counted from the log. RandomRunsTest holds the class against it.
 */
final class PlainModel {
    private static final class Failing extends Exception {
        private static final long serialVersionUID = 1L;
        final int number;

        Failing(int number) {
            super(null, null, false, false);
            this.number = number;
        }
    }

    private static final class Rule {
        int owner;
        int kind;
        int day;
        boolean made;
        final List<int[]> code = new ArrayList<>();
    }

    /** How a run went: its end is "answer 5", "failure 2" or "failure 0" (no edition). */
    private record Went(String end, int answer, int failure, int steps) {
        boolean answered() {
            return end.startsWith("answer");
        }
    }

    private record Question(int owner, int kind, int edition, Went went) {
    }

    private final int most;
    private int day = 0;
    private int[] facts = new int[8];
    private final int[] fallbacks = new int[3];
    private final List<Rule> rules = new ArrayList<>();
    private final List<int[]> kept = new ArrayList<>();
    private final List<Question> log = new ArrayList<>();
    private final Map<String, Integer> shadows = new HashMap<>();
    private final Map<String, Integer> unlike = new HashMap<>();
    private final List<Integer> handles = new ArrayList<>();
    private boolean lastHandleLives = false;

    PlainModel(int steps) {
        most = steps < 0 ? 0 : steps > 1000 ? 1000 : steps;
    }

    private static void range(boolean holds) {
        if (!holds) {
            throw new IllegalArgumentException();
        }
    }

    private static boolean owner(int n) {
        return 0 <= n && n <= 5;
    }

    private static boolean kind(int n) {
        return 0 <= n && n <= 2;
    }

    private static boolean day(int n) {
        return 0 <= n && n <= 1000;
    }

    private static boolean given(int n) {
        return -10000 <= n && n <= 10000;
    }

    private Rule there(int edition) {
        if (edition < 0 || edition >= rules.size()) {
            throw new NoSuchElementException();
        }
        return rules.get(edition);
    }

    private int timesAsked(Rule rule) {
        return (int) log.stream().filter(q -> q.edition >= 0 && rules.get(q.edition) == rule).count();
    }

    private Went went(Rule rule, int[] withFacts) {
        ArrayDeque<Long> put = new ArrayDeque<>();
        int steps = 0;
        int at = 0;
        try {
            while (true) {
                if (steps == most) {
                    throw new Failing(1);
                }
                if (at >= rule.code.size()) {
                    throw new Failing(4);
                }
                steps++;
                int op = rule.code.get(at)[0];
                int constant = rule.code.get(at)[1];
                at++;
                if (op == 9) {
                    int answer = (int) taken(put);
                    return new Went("answer " + answer, answer, -1, steps);
                } else if (op == 8) {
                    at = taken(put) == 0 ? constant : at;
                } else if (op == 7) {
                    long upper = taken(put);
                    put(put, upper);
                    put(put, upper);
                } else if (op == 10) {
                    put(put, timesAsked(rule));
                } else if (op < 2) {
                    put(put, op == 0 ? constant : withFacts[constant]);
                } else {
                    if (put.size() < 2) {
                        throw new Failing(3);
                    }
                    long upper = taken(put);
                    put(put, joined(op, taken(put), upper));
                }
            }
        } catch (Failing e) {
            return new Went("failure " + e.number, 0, e.number, steps);
        }
    }

    private static long joined(int op, long lower, long upper) throws Failing {
        if (op == 5 && upper == 0) {
            throw new Failing(2);
        }
        return switch (op) {
            case 2 -> lower + upper;
            case 3 -> lower - upper;
            case 4 -> lower * upper;
            case 5 -> lower / upper;
            default -> lower < upper ? 1 : 0;
        };
    }

    private static long taken(ArrayDeque<Long> put) throws Failing {
        if (put.isEmpty()) {
            throw new Failing(3);
        }
        return put.pop();
    }

    private static void put(ArrayDeque<Long> put, long value) throws Failing {
        if (Math.abs(value) > 1000000000L) {
            throw new Failing(5);
        }
        if (put.size() == 8) {
            throw new Failing(3);
        }
        put.push(value);
    }

    void today(int newDay) {
        range(day(newDay) && newDay >= day);
        day = newDay;
        lastHandleLives = false;
    }

    int rule(int owner, int kind, int onDay) {
        range(owner(owner) && kind(kind) && day(onDay));
        if (rules.size() == 24) {
            throw new UnsupportedOperationException();
        }
        Rule rule = new Rule();
        rule.owner = owner;
        rule.kind = kind;
        rule.day = onDay;
        rules.add(rule);
        return rules.size() - 1;
    }

    int op(int edition, int op, int constant) {
        Rule rule = there(edition);
        range(0 <= op && op <= 10);
        range(op == 0 ? given(constant) : op == 1 ? 0 <= constant && constant <= 7
                : op == 8 ? 0 <= constant && constant <= 15 : constant == 0);
        if (rule.made) {
            throw new IllegalStateException();
        }
        if (rule.code.size() == 16) {
            throw new UnsupportedOperationException();
        }
        rule.code.add(new int[] {op, constant});
        return rule.code.size();
    }

    int make(int edition) {
        Rule rule = there(edition);
        if (rule.made) {
            throw new IllegalStateException();
        }
        lastHandleLives = false;
        Went went = went(rule, facts);
        rule.made = went.answered();
        return rule.made ? 0 : -went.failure;
    }

    void fact(int fact, int value) {
        range(0 <= fact && fact <= 7 && given(value));
        facts = facts.clone();
        facts[fact] = value;
    }

    int ask(int owner, int kind) {
        range(owner(owner) && kind(kind));
        lastHandleLives = false;
        int number = edition(owner, kind, day);
        Went went = number < 0 ? new Went("failure 0", 0, 0, 0) : went(rules.get(number), facts);
        String key = owner + " " + kind;
        if (shadows.containsKey(key) && !went(rules.get(shadows.get(key)), facts).end.equals(went.end)) {
            unlike.merge(key, 1, Integer::sum);
        }
        log.add(new Question(owner, kind, number, went));
        return went.answered() ? went.answer : fallbacks[kind];
    }

    void fallback(int kind, int value) {
        range(kind(kind) && given(value));
        fallbacks[kind] = value;
    }

    int edition(int owner, int kind, int onDay) {
        range(owner(owner) && kind(kind) && day(onDay));
        for (int latest = onDay; latest >= 0; latest--) {
            for (int number = rules.size() - 1; number >= 0; number--) {
                Rule rule = rules.get(number);
                if (rule.made && rule.owner == owner && rule.kind == kind && rule.day == latest) {
                    return number;
                }
            }
        }
        return -1;
    }

    int failed(int owner, int what) {
        range(owner(owner) && 0 <= what && what <= 5);
        return (int) log.stream().filter(q -> q.owner == owner && q.went.failure == what).count();
    }

    int handle(int edition) {
        if (!there(edition).made) {
            throw new IllegalStateException();
        }
        handles.add(edition);
        lastHandleLives = true;
        return handles.size();
    }

    int by(int handle) {
        range(1 <= handle && handle <= handles.size());
        if (!lastHandleLives || handle != handles.size()) {
            throw new IllegalStateException();
        }
        Rule rule = rules.get(handles.get(handle - 1));
        Went went = went(rule, facts);
        return went.answered() ? went.answer : fallbacks[rule.kind];
    }

    int keep() {
        if (kept.size() == 8) {
            throw new UnsupportedOperationException();
        }
        kept.add(facts);
        return kept.size();
    }

    int compare(int edition, int other) {
        Rule one = there(edition);
        Rule two = there(other);
        return (int) kept.stream().filter(q -> !went(one, q).end.equals(went(two, q).end)).count();
    }

    boolean same(int edition, int other) {
        return Arrays.deepEquals(there(edition).code.toArray(), there(other).code.toArray());
    }

    void shadow(int owner, int kind, int edition) {
        if (edition != -1) {
            there(edition);
        }
        range(owner(owner) && kind(kind));
        unlike.remove(owner + " " + kind);
        shadows.remove(owner + " " + kind);
        if (edition >= 0) {
            shadows.put(owner + " " + kind, edition);
        }
    }

    int otherwise(int owner, int kind) {
        range(owner(owner) && kind(kind));
        return unlike.getOrDefault(owner + " " + kind, 0);
    }

    int divide(int a, int b) {
        if (b == 0) {
            throw new ArithmeticException();
        }
        return (int) ((long) a / b);
    }

    int told(int edition, int what) {
        Rule rule = there(edition);
        range(0 <= what && what <= 7);
        return switch (what) {
            case 0 -> rule.owner;
            case 1 -> rule.kind;
            case 2 -> rule.day;
            case 3 -> rule.code.size();
            case 4 -> rule.made ? 1 : 0;
            case 5 -> timesAsked(rule);
            case 6 -> log.stream().filter(q -> q.edition == edition).mapToInt(q -> q.went.steps).sum();
            default -> (int) log.stream().filter(q -> q.edition == edition && !q.went.answered()).count();
        };
    }

    int count(int what) {
        return switch (what) {
            case 0 -> rules.size();
            case 1 -> (int) rules.stream().filter(r -> r.made).count();
            case 2 -> log.size();
            case 3 -> (int) log.stream().filter(q -> !q.went.answered()).count();
            case 4 -> kept.size();
            case 5 -> handles.size();
            case 6 -> day;
            case 7 -> most;
            default -> -1;
        };
    }
}
