import java.io.IOException;
import java.nio.file.Files;
import java.nio.file.Path;
import java.util.ArrayList;
import java.util.List;

/** The examples of README.md: each line stands there, and the answer written behind a call is the one it gives. */
public final class UseTest {
    private static final List<String> LINES = new ArrayList<>();
    private static int next = 0;

    public static void main(String[] args) throws IOException {
        readExamples();
        RuleClasses rules = asking();
        handles(rules);
        comparing(rules);
        numbers(rules);
        Check.is("lines of README.md that are tried", next, LINES.size());
        Check.end("UseTest");
    }

    private static void readExamples() throws IOException {
        boolean inside = false;
        for (String line : Files.readAllLines(Path.of("README.md"))) {
            if (line.startsWith("```")) {
                inside = line.equals("```java");
            } else if (inside) {
                LINES.add(line);
            }
        }
    }

    /** The next line of the examples is this call; what stands behind it, or nothing. */
    private static String comment(String call) {
        String line = next < LINES.size() ? LINES.get(next) : "";
        next++;
        Check.is("README.md has " + call + " and not " + line, line.startsWith(call), true);
        int at = line.indexOf("// ");
        return at < 0 ? "" : line.substring(at + 3);
    }

    private static void line(String call) {
        comment(call);
    }

    private static void line(String call, int got) {
        answered(call, String.valueOf(got));
    }

    private static void line(String call, boolean got) {
        answered(call, String.valueOf(got));
    }

    private static void answered(String call, String got) {
        String written = comment(call).split("[:,]")[0];
        Check.is(call + " answers " + got + ", written is " + written, written.equals(got), true);
    }

    private static RuleClasses asking() {
        RuleClasses rules = new RuleClasses(100);
        line("RuleClasses rules = new RuleClasses(100);");
        int edition = rules.rule(0, 1, 5);
        line("int edition = rules.rule(0, 1, 5);", edition);
        line("rules.op(edition, 0, 84);", rules.op(edition, 0, 84));
        line("rules.op(edition, 1, 3);", rules.op(edition, 1, 3));
        line("rules.make(edition);", rules.make(edition));
        line("rules.op(edition, 5, 0);", rules.op(edition, 5, 0));
        line("rules.op(edition, 9, 0);", rules.op(edition, 9, 0));
        line("rules.make(edition);", rules.make(edition));
        rules.fact(3, 2);
        line("rules.fact(3, 2);");
        line("rules.make(edition);", rules.make(edition));
        rules.fallback(1, -1);
        line("rules.fallback(1, -1);");
        line("rules.ask(0, 1);", rules.ask(0, 1));
        rules.today(5);
        line("rules.today(5);");
        line("rules.ask(0, 1);", rules.ask(0, 1));
        line("rules.edition(0, 1, 4);", rules.edition(0, 1, 4));
        line("rules.failed(0, 0);", rules.failed(0, 0));
        return rules;
    }

    private static void handles(RuleClasses rules) {
        int handle = rules.handle(0);
        line("int handle = rules.handle(edition);", handle);
        line("rules.by(handle);", rules.by(handle));
        line("rules.ask(0, 1);", rules.ask(0, 1));
        Check.refuses("by a handle that has ended", IllegalStateException.class, () -> rules.by(handle));
        line("rules.told(edition, 5);", rules.told(0, 5));
        line("rules.told(edition, 6);", rules.told(0, 6));
    }

    private static void comparing(RuleClasses rules) {
        int other = rules.rule(0, 1, 6);
        line("int other = rules.rule(0, 1, 6);", other);
        line("rules.op(other, 0, 42);", rules.op(other, 0, 42));
        line("rules.op(other, 9, 0);", rules.op(other, 9, 0));
        line("rules.same(edition, other);", rules.same(0, other));
        line("rules.keep();", rules.keep());
        rules.fact(3, 4);
        line("rules.fact(3, 4);");
        line("rules.keep();", rules.keep());
        line("rules.compare(edition, other);", rules.compare(0, other));
        rules.shadow(0, 1, other);
        line("rules.shadow(0, 1, other);");
        line("rules.ask(0, 1);", rules.ask(0, 1));
        line("rules.otherwise(0, 1);", rules.otherwise(0, 1));
        rules.shadow(0, 1, -1);
        line("rules.shadow(0, 1, -1);");
    }

    private static void numbers(RuleClasses rules) {
        rules.fact(3, 0);
        line("rules.fact(3, 0);");
        line("rules.ask(0, 1);", rules.ask(0, 1));
        line("rules.failed(0, 2);", rules.failed(0, 2));
        line("rules.told(edition, 7);", rules.told(0, 7));
        line("rules.count(2);", rules.count(2));
        line("rules.count(3);", rules.count(3));
        line("rules.divide(-7, 2);", rules.divide(-7, 2));
    }
}
