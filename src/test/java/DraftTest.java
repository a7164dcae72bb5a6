import java.util.function.Supplier;

/** Promises 1 to 6 and 15: a new object, number, cell, apply, wipe, enter, drafted. */
public final class DraftTest {
    private static final Checks CHECKS = new Checks();

    public static void main(String[] args) {
        newObject();
        numberPromise();
        cellPromise();
        applyPromise();
        wipeAndDrafted();
        enterPromise();
        enterCountsUntried();
        enterRefuses();
        CHECKS.close();
    }

    private static void newObject() {
        Gridprobe x = new Gridprobe();
        CHECKS.due("new: drafted", x.drafted(), 0);
        CHECKS.due("new: today", x.today(), 0);
        CHECKS.due("new: locked", x.locked(), 0);
        CHECKS.due("new: unlocked", x.unlocked(), 0);
        for (int cell = 0; cell < 16; cell++) {
            String at = "new: cell " + cell + ": ";
            CHECKS.due(at + "reads", x.reads(cell), 0);
            CHECKS.due(at + "rests", x.rests(cell), 0);
            CHECKS.due(at + "show", x.show(cell), 0);
            CHECKS.due(at + "verdict", x.verdict(cell), Gridprobe.UNTRIED);
            CHECKS.due(at + "failing", x.failing(cell), Gridprobe.NONE);
            CHECKS.due(at + "smaller", x.smaller(cell), Gridprobe.NONE);
            CHECKS.due(at + "isLocked", x.isLocked(cell), false);
            CHECKS.due(at + "isLockedByWays", x.isLockedByWays(cell), false);
            CHECKS.due(at + "isMarked", x.isMarked(cell), false);
            CHECKS.due(at + "owner", x.own(cell, 0), 0);
            CHECKS.due(at + "set", x.set(cell, 0), 0);
            CHECKS.due(at + "drop", x.drop(cell), 0);
            int input = cell;
            CHECKS.dueText(at + "set 1", Checks.outcome(x, y -> y.set(input, 1)), "IllegalArgumentException");
            CHECKS.dueText(at + "set -1", Checks.outcome(x, y -> y.set(input, -1)), "IllegalArgumentException");
        }
        Gridprobe other = new Gridprobe();
        x.number(1);
        CHECKS.due("another object's draft", other.drafted(), 0);
    }

    private static void numberPromise() {
        Gridprobe x = new Gridprobe();
        for (int i = 1; i <= 12; i++) {
            CHECKS.due("number " + i, x.number(Integer.MAX_VALUE), i);
        }
        CHECKS.dueThrows("number as part 13", IllegalStateException.class, numbers(12), y -> y.number(1));
        for (int number : new int[] {Integer.MIN_VALUE, -1, 0, 7, Integer.MAX_VALUE}) {
            Gridprobe y = new Gridprobe();
            CHECKS.due("number", y.number(number), 1);
            y.enter(0);
            CHECKS.due("number shown", y.show(0), number);
        }
    }

    private static void cellPromise() {
        Gridprobe x = new Gridprobe();
        x.number(1);
        for (int i = 2; i <= 12; i++) {
            CHECKS.due("cell as part " + i, x.cell(i == 2 ? 0 : 15), i);
        }
        CHECKS.dueThrows("cell as part 13", IllegalStateException.class, numbers(12), y -> y.cell(0));
        for (int cell : new int[] {-1, 16, Integer.MIN_VALUE, Integer.MAX_VALUE}) {
            CHECKS.dueThrows("cell " + cell, IndexOutOfBoundsException.class, numbers(3), y -> y.cell(cell));
            CHECKS.dueThrows("cell of a full draft", IndexOutOfBoundsException.class, numbers(12), y -> y.cell(cell));
        }
    }

    private static void applyPromise() {
        Gridprobe x = new Gridprobe();
        for (int i = 0; i < 6; i++) {
            x.number(i);
        }
        for (int i = 5; i >= 1; i--) {
            CHECKS.due("apply to " + i + " formulas", x.apply(0), i);
        }
        x.number(9);
        CHECKS.dueText("apply as part 13 throws", Checks.outcome(x, y -> y.apply(0)), "IllegalStateException");
        CHECKS.due("12 parts, two formulas", x.drafted(), 12);
        CHECKS.dueThrows("apply to none", IllegalStateException.class, Gridprobe::new, y -> y.apply(0));
        CHECKS.dueThrows("apply to one", IllegalStateException.class, numbers(1), y -> y.apply(11));
        CHECKS.dueThrows("apply as part 13", IllegalStateException.class, numbers(12), y -> y.apply(0));
        for (int operation : new int[] {-1, 12, Integer.MIN_VALUE, Integer.MAX_VALUE}) {
            CHECKS.dueThrows("apply " + operation, IllegalArgumentException.class, numbers(2), y -> y.apply(operation));
            CHECKS.dueThrows("apply to none", IllegalArgumentException.class, Gridprobe::new, y -> y.apply(operation));
            CHECKS.dueThrows("apply to full", IllegalArgumentException.class, numbers(12), y -> y.apply(operation));
        }
        Gridprobe y = new Gridprobe();
        Checks.draft(y, "n9 n5 n3");
        CHECKS.due("the last two are joined", y.apply(1), 2);
        CHECKS.due("and then the first", y.apply(1), 1);
        y.enter(0);
        CHECKS.due("9 - (5 - 3)", y.show(0), 7);
    }

    private static void wipeAndDrafted() {
        Gridprobe x = new Gridprobe();
        CHECKS.due("wipe of an empty draft", x.wipe(), 0);
        Checks.draft(x, "n1 c2 o0 n4");
        CHECKS.due("drafted", x.drafted(), 4);
        CHECKS.due("wipe", x.wipe(), 4);
        CHECKS.due("drafted after wipe", x.drafted(), 0);
        CHECKS.due("wipe again", x.wipe(), 0);
        CHECKS.due("number after wipe", x.number(3), 1);
        Gridprobe full = numbers(12).get();
        CHECKS.due("drafted, full", full.drafted(), 12);
        CHECKS.due("wipe of a full draft", full.wipe(), 12);
        CHECKS.due("number after that", full.number(1), 1);
    }

    private static void enterPromise() {
        Gridprobe x = new Gridprobe();
        CHECKS.due("enter", Checks.enter(x, 3, "c1 n2 o0"), 0);
        CHECKS.due("enter empties", x.drafted(), 0);
        CHECKS.due("reads", x.reads(3), 2);
        CHECKS.due("show", x.show(3), 2);
        CHECKS.due("enter over a formula", Checks.enter(x, 3, "c2 n5 o2 n1 o0"), 0);
        CHECKS.due("reads anew", x.reads(3), 4);
        CHECKS.due("show anew", x.show(3), 1);
        CHECKS.dueText("a formula is no input", Checks.outcome(x, y -> y.set(3, 0)), "IllegalStateException");
        CHECKS.due("the longest", Checks.enter(x, 15, "n1 n2 n3 n4 n5 n6 o0 o0 o0 o0 o0"), 0);
        CHECKS.due("the longest shown", x.show(15), 21);
        x.number(8);
        CHECKS.due("an entered formula stays as it was", x.show(3), 1);
    }

    private static void enterCountsUntried() {
        Gridprobe x = new Gridprobe();
        Checks.enter(x, 1, "c0");
        Checks.enter(x, 2, "c1");
        Checks.enter(x, 3, "c1 c2 o0");
        Checks.enter(x, 4, "c0");
        for (int cell = 0; cell < 6; cell++) {
            x.attempt(cell, 0, 1);
        }
        x.tell(3, Gridprobe.LEAST, 1);
        x.attempt(3, 0, 1);
        CHECKS.due("1 and 2 were PASSED, 3 FAILED", Checks.enter(x, 1, "c0 n1 o0"), 2);
        int[] want = {1, 0, 0, 2, 1, 1};
        for (int cell = 0; cell < 6; cell++) {
            CHECKS.due("verdict of " + cell, x.verdict(cell), want[cell]);
        }
        CHECKS.due("again", Checks.enter(x, 1, "c0"), 0);
        CHECKS.due("an example stays", x.smaller(3), 0);
    }

    private static void enterRefuses() {
        Supplier<Gridprobe> chain = () -> {
            Gridprobe x = new Gridprobe();
            Checks.enter(x, 1, "c0");
            Checks.enter(x, 2, "c1 n1 o0");
            x.attempt(2, 0, 2);
            return x;
        };
        CHECKS.dueThrows("enter of nothing", IllegalStateException.class, chain, x -> x.enter(1));
        CHECKS.dueThrows("enter of two", IllegalStateException.class, drafted(chain, "c5 c6"), x -> x.enter(1));
        CHECKS.dueThrows("reads itself", IllegalStateException.class, drafted(chain, "c5"), x -> x.enter(5));
        CHECKS.dueThrows("reads itself twice", IllegalStateException.class, drafted(chain, "c2 c2 o0"), x -> x.enter(2));
        CHECKS.dueThrows("rests on itself", IllegalStateException.class, drafted(chain, "n1 c2 o0"), x -> x.enter(0));
        CHECKS.dueThrows("rests on itself by one", IllegalStateException.class, drafted(chain, "c2"), x -> x.enter(1));
        for (int cell : new int[] {-1, 16, Integer.MIN_VALUE, Integer.MAX_VALUE}) {
            CHECKS.dueThrows("enter " + cell, IndexOutOfBoundsException.class, drafted(chain, "c5"), x -> x.enter(cell));
            CHECKS.dueThrows("enter of nothing", IndexOutOfBoundsException.class, chain, x -> x.enter(cell));
        }
        Gridprobe x = chain.get();
        x.input(2, 0, 0);
        CHECKS.due("no longer on itself", Checks.enter(x, 1, "c2"), 0);
        CHECKS.due("what was read is left", Checks.enter(x, 0, "c2"), 0);
    }

    private static Supplier<Gridprobe> numbers(int count) {
        return () -> {
            Gridprobe x = new Gridprobe();
            for (int i = 0; i < count; i++) {
                x.number(i);
            }
            return x;
        };
    }

    private static Supplier<Gridprobe> drafted(Supplier<Gridprobe> build, String parts) {
        return () -> {
            Gridprobe x = build.get();
            Checks.draft(x, parts);
            return x;
        };
    }
}
