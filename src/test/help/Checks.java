import java.util.function.Consumer;
import java.util.function.Supplier;
import java.util.function.ToLongFunction;

/** What the tests share: answers that are due, exceptions that are due, formulas written short. */
final class Checks {
    private int wrong;

    void due(String what, long got, long want) {
        if (got != want) {
            tellWrong(what + " answered " + got + ", due is " + want);
        }
    }

    void due(String what, boolean got, boolean want) {
        due(what, got ? 1 : 0, want ? 1 : 0);
    }

    void dueText(String what, String got, String want) {
        if (!got.equals(want)) {
            tellWrong(what + " answered\n" + got + "\ndue is\n" + want);
        }
    }

    /** The call has to answer the number, or to throw the exception of the name, that is due. */
    void dueOutcome(String what, Gridprobe x, ToLongFunction<Gridprobe> call, String want) {
        dueText(what, outcome(x, call), want);
    }

    /** The call on a built object has to throw just this, and to leave all as a twin without the call has it. */
    void dueThrows(String what, Class<?> want, Supplier<Gridprobe> build, Consumer<Gridprobe> call) {
        Gridprobe called = build.get();
        try {
            call.accept(called);
            tellWrong(what + " threw nothing, due is " + want.getSimpleName());
        } catch (RuntimeException e) {
            if (e.getClass() != want) {
                tellWrong(what + " threw " + e.getClass().getSimpleName() + ", due is " + want.getSimpleName());
            } else if ("/ by zero".equals(e.getMessage())) {
                tellWrong(what + " let the machine throw");
            }
        }
        dueText(what + ": what is asked after it", asked(called), asked(build.get()));
        Gridprobe calledAgain = build.get();
        try {
            call.accept(calledAgain);
        } catch (RuntimeException e) {
            // Judged above; here only what it leaves counts.
        }
        dueText(what + ": what is hidden after it", hidden(calledAgain), hidden(build.get()));
    }

    void close() {
        System.out.println(wrong == 0 ? "all answers are as due" : wrong + " answers are not as due");
        if (wrong != 0) {
            System.exit(1);
        }
    }

    private void tellWrong(String text) {
        wrong++;
        System.out.println(text);
    }

    /** Enters a formula written in parts: n a number, c a cell, o an operation, as in "c0 n2 o0". */
    static int enter(Gridprobe x, int cell, String parts) {
        draft(x, parts);
        return x.enter(cell);
    }

    static void draft(Gridprobe x, String parts) {
        for (String part : parts.split(" ")) {
            int number = Integer.parseInt(part.substring(1));
            switch (part.charAt(0)) {
                case 'n' -> x.number(number);
                case 'c' -> x.cell(number);
                default -> x.apply(number);
            }
        }
    }

    static String unlockedRow(Gridprobe x) {
        StringBuilder text = new StringBuilder();
        for (int i = 0; i < x.unlocked(); i++) {
            text.append(x.unlockedAt(i)).append(' ');
        }
        return text.toString().trim();
    }

    /** What a call that answers or throws does, as a text. */
    static String outcome(Gridprobe x, ToLongFunction<Gridprobe> call) {
        try {
            return Long.toString(call.applyAsLong(x));
        } catch (RuntimeException e) {
            return e.getClass().getSimpleName();
        }
    }

    private static String asked(Gridprobe x) {
        StringBuilder text = new StringBuilder();
        text.append(x.drafted()).append(' ').append(x.today()).append(' ').append(x.locked());
        text.append(" unlocked ").append(unlockedRow(x)).append('\n');
        for (int i = 0; i < 16; i++) {
            int cell = i;
            text.append(cell).append(": ").append(x.reads(cell)).append(' ').append(x.rests(cell));
            text.append(' ').append(outcome(x, y -> y.show(cell)));
            text.append(' ').append(x.verdict(cell)).append(' ').append(x.failing(cell));
            text.append(' ').append(x.smaller(cell)).append(' ').append(x.isLocked(cell));
            text.append(' ').append(x.isLockedByWays(cell)).append(' ').append(x.isMarked(cell));
            if (x.smaller(cell) != Gridprobe.NONE) {
                for (int j = 0; j < 16; j++) {
                    int input = j;
                    text.append(' ').append(outcome(x, y -> y.example(cell, input)));
                }
            }
            text.append('\n');
        }
        return text.toString();
    }

    private static String hidden(Gridprobe x) {
        StringBuilder text = new StringBuilder();
        for (int i = 0; i < 31 && x.today() < 10000; i++) {
            text.append(x.pass(1)).append(' ');
        }
        text.append('\n');
        for (int i = 0; i < 16; i++) {
            int cell = i;
            text.append(cell).append(": ").append(x.attempt(cell, 5, 20)).append(' ').append(x.own(cell, 0));
            text.append(' ').append(x.drop(cell));
            for (int value : new int[] {-1000000, -5, 0, 5, 101, 1000000}) {
                text.append(' ').append(outcome(x, y -> y.set(cell, value)));
            }
            text.append('\n');
        }
        text.append(outcome(x, y -> y.apply(0))).append(' ').append(outcome(x, y -> y.enter(15)));
        text.append(' ').append(outcome(x, y -> y.show(15))).append(' ').append(x.wipe());
        return text.toString();
    }
}
