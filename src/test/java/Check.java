/** What every test uses: it counts wrong answers and ends with exit code 1 if there was one. */
final class Check {
    private static int wrong = 0;
    private static int checked = 0;

    interface Call {
        void run();
    }

    private Check() {
    }

    static void is(String what, long got, long want) {
        checked++;
        if (got != want) {
            tell(what + " answered " + got + ", due is " + want);
        }
    }

    static void is(String what, boolean got, boolean want) {
        is(what, got ? 1 : 0, want ? 1 : 0);
    }

    static void refuses(String what, Class<? extends RuntimeException> due, Call call) {
        checked++;
        try {
            call.run();
        } catch (RuntimeException e) {
            if (e.getClass() != due) {
                tell(what + " threw " + e.getClass().getSimpleName() + ", due is " + due.getSimpleName());
            }
            return;
        }
        tell(what + " threw nothing, due is " + due.getSimpleName());
    }

    static void tell(String text) {
        wrong++;
        System.out.println(text);
    }

    static void end(String test) {
        System.out.println(test + ": " + checked + " checks, " + wrong + " wrong");
        if (wrong != 0) {
            System.exit(1);
        }
    }

    /** A new edition with a code of pairs (op, constant): its number. */
    static int written(RuleClasses x, int owner, int kind, int day, int... code) {
        int edition = x.rule(owner, kind, day);
        write(x, edition, code);
        return edition;
    }

    static void write(RuleClasses x, int edition, int... code) {
        for (int i = 0; i < code.length; i += 2) {
            x.op(edition, code[i], code[i + 1]);
        }
    }

    static int made(RuleClasses x, int owner, int kind, int day, int... code) {
        int edition = written(x, owner, kind, day, code);
        is("make of a code that should answer", x.make(edition), 0);
        return edition;
    }
}
