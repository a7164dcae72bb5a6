import java.util.function.Consumer;
import java.util.function.Supplier;

/** The promises of the single calls, 1 to 29, at the boundaries that they name: a test for each promise. */
public final class BoundaryCallsTest {
    private static final Checks CHECKS = new Checks();
    private static final int LEAST_INT = Integer.MIN_VALUE, GREATEST_INT = Integer.MAX_VALUE;
    private static final int[] NO_CELLS = {-1, 16, LEAST_INT, GREATEST_INT};
    private static final Class<?> OUTSIDE = IndexOutOfBoundsException.class, WRONG = IllegalArgumentException.class;
    private static final Class<?> STOPPED = IllegalStateException.class, FAULT = ArithmeticException.class;
    private static final Class<?> ABSENT = java.util.NoSuchElementException.class;

    public static void main(String[] args) {
        promise1NewObject();
        promise2Number();
        promise3Cell();
        promise4Apply();
        promise5Wipe();
        promise6Enter();
        promise7Input();
        promise8Set();
        promise9Tell();
        promise10Drop();
        promise11Own();
        promise12Attempt();
        promise13Waive();
        promise13WaiverEnds();
        promise14Pass();
        promise15Drafted();
        promise16Today();
        promise17Reads();
        promise18Rests();
        promise19Show();
        promise20Verdict();
        promise21Failing();
        promise22Example();
        promise23Smaller();
        promise24IsLocked();
        promise25IsLockedByWays();
        promise26IsMarked();
        promise27Locked();
        promise28Unlocked();
        promise29UnlockedAt();
        CHECKS.close();
    }

    /**
     * 0 is an input from -5 to 5 with 2 in it; 1 reads it, has four properties and is PASSED; 2 reads 1, belongs to
     * 3 and is FAILED; 3 reads 2 and is waived; 4 is a fault; 9 was mended, and 8 with it; the draft is 1 and cell 7.
     */
    private static Gridprobe desk() {
        Gridprobe x = new Gridprobe();
        x.input(0, -5, 5);
        x.set(0, 2);
        Checks.enter(x, 1, "c0 n1 o0");
        Checks.enter(x, 2, "c1 n2 o2");
        Checks.enter(x, 3, "c2");
        Checks.enter(x, 4, "n4 n0 o3");
        Checks.enter(x, 8, "c9");
        for (int told = 0; told < 4; told++) {
            x.tell(1, Gridprobe.LEAST, -4 - told);
        }
        x.attempt(1, 0, 5);
        x.own(2, 3);
        fail(x, 2);
        x.waive(3, 0, 2);
        fail(x, 9);
        mend(x, 9);
        Checks.draft(x, "n1 c7");
        return x;
    }

    private static void fail(Gridprobe x, int cell) {
        x.tell(cell, Gridprobe.LEAST, GREATEST_INT);
        x.attempt(cell, 0, 1);
        x.drop(cell);
    }

    private static int mend(Gridprobe x, int cell) {
        return x.attempt(cell, 0, 1);
    }

    private static void refused(String what, Class<?> want, Consumer<Gridprobe> call) {
        CHECKS.dueThrows(what, want, BoundaryCallsTest::desk, call);
    }

    private static Supplier<Gridprobe> deskWithDraft(String parts) {
        return () -> {
            Gridprobe x = desk();
            x.wipe();
            Checks.draft(x, parts);
            return x;
        };
    }

    private static Supplier<Gridprobe> fullDraft() {
        return deskWithDraft("n1 n2 n3 n4 n5 n6 c7 c8 c9 c10 c11 c12");
    }

    private static void promise1NewObject() {
        Gridprobe x = new Gridprobe();
        CHECKS.due("an empty draft", x.wipe(), 0);
        for (int cell = 0; cell < 16; cell++) {
            CHECKS.due("an input is " + cell, x.set(cell, 0), 0);
        }
        x.number(5);
        x.pass(100);
        fail(x, 0);
        Gridprobe other = new Gridprobe();
        CHECKS.due("a draft of its own", other.drafted(), 0);
        CHECKS.due("days of its own", other.today(), 0);
        CHECKS.due("cells of its own", other.locked(), 0);
    }

    /** "number: any"; "if it has 12 parts". */
    private static void promise2Number() {
        for (int number : new int[] {LEAST_INT, -1, 0, 1, GREATEST_INT}) {
            Gridprobe x = new Gridprobe();
            CHECKS.due("number " + number, x.number(number), 1);
            x.enter(6);
            CHECKS.due("shown", x.show(6), number);
        }
        CHECKS.due("part 12", deskWithDraft("n1 n2 n3 n4 n5 n6 n7 n8 n9 n10 n11").get().number(3), 12);
        CHECKS.due("part 12 behind operations", deskWithDraft("n1 n2 n3 n4 n5 n6 o0 o0 o0 o0 o0").get().number(3), 2);
        CHECKS.dueThrows("part 13", STOPPED, fullDraft(), x -> x.number(GREATEST_INT));
    }

    /** "cell: 0 to 15"; "if it has 12 parts"; the first named is thrown. */
    private static void promise3Cell() {
        CHECKS.due("cell 0", new Gridprobe().cell(0), 1);
        CHECKS.due("cell 15", new Gridprobe().cell(15), 1);
        CHECKS.due("part 12", deskWithDraft("n1 n2 n3 n4 n5 n6 n7 n8 n9 n10 n11").get().cell(3), 12);
        CHECKS.dueThrows("part 13", STOPPED, fullDraft(), x -> x.cell(15));
        for (int cell : NO_CELLS) {
            refused("cell " + cell, OUTSIDE, x -> x.cell(cell));
            CHECKS.dueThrows("part 13, cell " + cell, OUTSIDE, fullDraft(), x -> x.cell(cell));
        }
    }

    /** "operation: 0 to 11"; "if it has fewer than two formulas, or 12 parts". */
    private static void promise4Apply() {
        CHECKS.due("operation 0", deskWithDraft("n1 n2").get().apply(0), 1);
        CHECKS.due("operation 11", deskWithDraft("n1 n2").get().apply(11), 1);
        CHECKS.due("part 12", deskWithDraft("n1 n2 n3 n4 n5 n6 n7 o0 o0 o0 o0").get().apply(0), 2);
        CHECKS.dueThrows("of one of 11 parts", STOPPED, deskWithDraft("n1 n1 o0 n2 o0 n3 o0 n4 n5 o0 o0"), x -> x.apply(0));
        CHECKS.dueThrows("of an empty draft", STOPPED, Gridprobe::new, x -> x.apply(11));
        CHECKS.dueThrows("of one", STOPPED, deskWithDraft("c1"), x -> x.apply(0));
        CHECKS.dueThrows("of a joined one", STOPPED, deskWithDraft("c1 c2 o0"), x -> x.apply(0));
        CHECKS.dueThrows("part 13", STOPPED, fullDraft(), x -> x.apply(0));
        for (int operation : new int[] {-1, 12, 13, LEAST_INT, GREATEST_INT}) {
            refused("operation " + operation, WRONG, x -> x.apply(operation));
            CHECKS.dueThrows("of none, " + operation, WRONG, Gridprobe::new, x -> x.apply(operation));
            CHECKS.dueThrows("part 13, " + operation, WRONG, fullDraft(), x -> x.apply(operation));
        }
    }

    /** "Returns how many parts it had." */
    private static void promise5Wipe() {
        Gridprobe full = fullDraft().get();
        CHECKS.due("12 parts", full.wipe(), 12);
        CHECKS.due("none", full.wipe(), 0);
        CHECKS.due("12 again", fill(full), 12);
        CHECKS.due("5 parts, one formula", deskWithDraft("n1 n2 o0 n3 o0").get().wipe(), 5);
        CHECKS.due("entered", enteredAndWiped(), 0);
    }

    private static int fill(Gridprobe x) {
        for (int part = 0; part < 12; part++) {
            x.number(part);
        }
        return x.drafted();
    }

    private static int enteredAndWiped() {
        Gridprobe x = new Gridprobe();
        Checks.enter(x, 0, "n1 n2 o0");
        return x.wipe();
    }

    /** "if the draft has not just one formula, or a cell would rest on itself". */
    private static void promise6Enter() {
        Gridprobe x = deskWithDraft("n7").get();
        CHECKS.due("one part", x.enter(15), 0);
        CHECKS.due("11 parts", Checks.enter(x, 0, "n1 c10 n3 c11 n5 n6 o0 o0 o0 o0 o0"), 1);
        CHECKS.due("shown", x.show(0), 15);
        CHECKS.due("1 was PASSED and is not", x.verdict(1), Gridprobe.UNTRIED);
        CHECKS.dueThrows("two formulas", STOPPED, deskWithDraft("n1 n1 o0 n2"), y -> y.enter(0));
        CHECKS.dueThrows("no formula", STOPPED, Gridprobe::new, y -> y.enter(0));
        CHECKS.dueThrows("12 formulas", STOPPED, fullDraft(), y -> y.enter(5));
        CHECKS.dueThrows("itself", STOPPED, deskWithDraft("c3"), y -> y.enter(3));
        CHECKS.dueThrows("a ring of two", STOPPED, deskWithDraft("c3 n1 o0"), y -> y.enter(2));
        CHECKS.dueThrows("a ring of four", STOPPED, deskWithDraft("n0 c3 o2"), y -> y.enter(0));
        for (int cell : NO_CELLS) {
            CHECKS.dueThrows("enter " + cell, OUTSIDE, deskWithDraft("n1"), y -> y.enter(cell));
            refused("two formulas, enter " + cell, OUTSIDE, y -> y.enter(cell));
            CHECKS.dueThrows("no formula, enter " + cell, OUTSIDE, Gridprobe::new, y -> y.enter(cell));
        }
    }

    /** "low: -1000000 to 1000000"; "high: low to 1000000". */
    private static void promise7Input() {
        for (int[] range : new int[][] {{-1000000, 1000000}, {-1000000, -1000000}, {1000000, 1000000}, {0, 0}}) {
            Gridprobe x = desk();
            CHECKS.due("0 and 1", x.input(0, range[0], range[1]), 1);
            CHECKS.due("the lowest one", x.show(0), range[0]);
            CHECKS.due("up to the highest one", x.set(0, range[1]), range[0]);
            CHECKS.dueOutcome("not above", x, y -> y.set(0, range[1] + 1), WRONG.getSimpleName());
            CHECKS.dueOutcome("not below", x, y -> y.set(0, range[0] - 1), WRONG.getSimpleName());
        }
        int[][] wrong = {{-1000001, 0}, {-1000001, -1000001}, {LEAST_INT, 0}, {0, 1000001}, {1000001, 1000001},
            {0, GREATEST_INT}, {1, 0}, {-1000000, -1000001}, {1000000, 999999}, {1000001, 1000000},
            {GREATEST_INT, LEAST_INT}, {LEAST_INT, GREATEST_INT}};
        for (int[] range : wrong) {
            String what = "input " + range[0] + ", " + range[1];
            refused(what, WRONG, x -> x.input(0, range[0], range[1]));
            refused(what + " for a waived formula", WRONG, x -> x.input(3, range[0], range[1]));
            for (int cell : NO_CELLS) {
                refused(what + " of " + cell, OUTSIDE, x -> x.input(cell, range[0], range[1]));
            }
        }
    }

    /** "value: in its range". */
    private static void promise8Set() {
        Gridprobe x = desk();
        CHECKS.due("the lowest one", x.set(0, -5), 2);
        CHECKS.due("the highest one", x.set(0, 5), -5);
        CHECKS.due("shown", x.show(0), 5);
        for (int value : new int[] {-6, 6, LEAST_INT, GREATEST_INT}) {
            refused("set " + value, WRONG, y -> y.set(0, value));
            refused("set of a formula to " + value, STOPPED, y -> y.set(1, value));
            for (int cell : NO_CELLS) {
                refused("set of " + cell, OUTSIDE, y -> y.set(cell, value));
            }
        }
        refused("set of a formula", STOPPED, y -> y.set(1, 0));
        refused("set of a locked formula", STOPPED, y -> y.set(2, 0));
        fail(x, 0);
        CHECKS.due("a locked input is set", x.set(0, 0), 5);
    }

    /** "kind: LEAST to RISING"; "n: any for LEAST and MOST; the number of a cell for SAME and RISING"; "if it has 4". */
    private static void promise9Tell() {
        Gridprobe x = new Gridprobe();
        int[][] right = {{0, LEAST_INT}, {0, GREATEST_INT}, {1, LEAST_INT}, {1, GREATEST_INT}, {2, 0}, {2, 15},
            {3, 0}, {3, 15}};
        for (int i = 0; i < right.length; i++) {
            CHECKS.due("right " + i, x.tell(i / 4, right[i][0], right[i][1]), i % 4 + 1);
        }
        for (int kind : new int[] {-1, 4, LEAST_INT, GREATEST_INT}) {
            refused("kind " + kind, WRONG, y -> y.tell(0, kind, 0));
            refused("kind " + kind + ", 4 told", WRONG, y -> y.tell(1, kind, 0));
            refused("kind " + kind + ", n is no cell", WRONG, y -> y.tell(0, kind, 16));
            refused("kind " + kind + ", no cell", OUTSIDE, y -> y.tell(16, kind, 0));
        }
        for (int cell : NO_CELLS) {
            for (int kind = 0; kind < 4; kind++) {
                int told = kind;
                refused(kind + " of " + cell, OUTSIDE, y -> y.tell(cell, told, 0));
                refused(kind + " of " + cell + " twice", OUTSIDE, y -> y.tell(cell, told, cell));
            }
            refused("SAME as " + cell, OUTSIDE, y -> y.tell(0, Gridprobe.SAME, cell));
            refused("RISING by " + cell, OUTSIDE, y -> y.tell(0, Gridprobe.RISING, cell));
            refused("SAME as " + cell + ", 4 told", OUTSIDE, y -> y.tell(1, Gridprobe.SAME, cell));
            refused("RISING by " + cell + ", 4 told", OUTSIDE, y -> y.tell(1, Gridprobe.RISING, cell));
            refused("LEAST " + cell + ", 4 told", STOPPED, y -> y.tell(1, Gridprobe.LEAST, cell));
            refused("MOST " + cell + ", 4 told", STOPPED, y -> y.tell(1, Gridprobe.MOST, cell));
        }
        refused("SAME as 0, 4 told", STOPPED, y -> y.tell(1, Gridprobe.SAME, 0));
        refused("RISING by 15, 4 told", STOPPED, y -> y.tell(1, Gridprobe.RISING, 15));
    }

    /** "Returns how many there were"; "if it was FAILED, it stays so". */
    private static void promise10Drop() {
        Gridprobe x = desk();
        CHECKS.due("4", x.drop(1), 4);
        CHECKS.due("0", x.drop(1), 0);
        CHECKS.due("1 again", x.tell(1, Gridprobe.LEAST, 0), 1);
        CHECKS.due("1", x.drop(1), 1);
        CHECKS.due("0 of a FAILED one", x.drop(2), 0);
        CHECKS.due("FAILED", x.verdict(2), Gridprobe.FAILED);
        CHECKS.due("locked", x.isLocked(2), true);
        for (int cell : NO_CELLS) {
            refused("drop " + cell, OUTSIDE, y -> y.drop(cell));
        }
    }

    /** "owner: 0 to 5". */
    private static void promise11Own() {
        Gridprobe x = desk();
        CHECKS.due("0 at first", x.own(15, 5), 0);
        CHECKS.due("5", x.own(15, 0), 5);
        CHECKS.due("3", x.own(2, 3), 3);
        CHECKS.due("3 again", x.own(2, 5), 3);
        CHECKS.due("5 waives", x.waive(2, 5, 0), 0);
        for (int owner : new int[] {-1, 6, LEAST_INT, GREATEST_INT}) {
            refused("owner " + owner, WRONG, y -> y.own(2, owner));
            for (int cell : NO_CELLS) {
                refused("owner " + owner + " of " + cell, OUTSIDE, y -> y.own(cell, owner));
            }
        }
        for (int cell : NO_CELLS) {
            refused("owner of " + cell, OUTSIDE, y -> y.own(cell, 5));
        }
    }

    /** "seed: 0 to 7874"; "rows: 1 to 20"; "the row that failed, from 0 on; NONE if none did". */
    private static void promise12Attempt() {
        for (int seed : new int[] {0, 7874}) {
            for (int rows : new int[] {1, 20}) {
                CHECKS.due(seed + ", " + rows, desk().attempt(2, seed, rows), Gridprobe.NONE);
            }
        }
        Gridprobe x = desk();
        fail(x, 15);
        x.tell(15, Gridprobe.LEAST, 1);
        CHECKS.due("row 0", x.attempt(15, 7874, 1), 0);
        for (int seed : new int[] {-1, 7875, LEAST_INT, GREATEST_INT}) {
            refused("seed " + seed, WRONG, y -> y.attempt(2, seed, 1));
        }
        for (int rows : new int[] {0, 21, -1, LEAST_INT, GREATEST_INT}) {
            refused("rows " + rows, WRONG, y -> y.attempt(2, 0, rows));
        }
        for (int cell : NO_CELLS) {
            refused("attempt " + cell, OUTSIDE, y -> y.attempt(cell, 0, 1));
            refused("attempt " + cell + " by no seed", OUTSIDE, y -> y.attempt(cell, 7875, 1));
            refused("attempt " + cell + " in no rows", OUTSIDE, y -> y.attempt(cell, 0, 0));
        }
    }

    /** "days: 0 to 30: its last day is today and so many days"; "if owner is not its owner"; "if it is not locked". */
    private static void promise13Waive() {
        for (int days : new int[] {0, 1, 30}) {
            Gridprobe x = desk();
            x.pass(7);
            CHECKS.due("both locked", x.locked(), 2);
            CHECKS.due("waived for " + days, x.waive(2, 3, days), 0);
            if (days > 0) {
                CHECKS.due("up to the last day", x.pass(days), 0);
            }
            CHECKS.due("not the day behind it", x.pass(1), 2);
        }
        for (int owner : new int[] {-1, 0, 2, 4, 6, LEAST_INT, GREATEST_INT}) {
            refused("waive by " + owner, WRONG, x -> x.waive(2, owner, 0));
            refused("waive by " + owner + " too long", WRONG, x -> x.waive(2, owner, 31));
        }
        for (int days : new int[] {-1, 31, LEAST_INT, GREATEST_INT}) {
            refused("waive for " + days, WRONG, x -> x.waive(2, 3, days));
            refused("waive what is free for " + days, WRONG, x -> x.waive(0, 0, days));
        }
        refused("waive what is free", STOPPED, x -> x.waive(0, 0, 0));
        refused("waive what is free by another", WRONG, x -> x.waive(0, 1, 0));
        refused("waive what is waived", STOPPED, x -> x.waive(3, 0, 30));
        for (int cell : NO_CELLS) {
            refused("waive " + cell, OUTSIDE, x -> x.waive(cell, 0, 0));
            refused("waive " + cell + " by none", OUTSIDE, x -> x.waive(cell, 6, 31));
        }
    }

    /** "A waiver holds up to its last day; it ends if the cell gets a range or a formula", the same one too. */
    private static void promise13WaiverEnds() {
        Gridprobe x = desk();
        x.wipe();
        CHECKS.due("waived", x.waive(2, 3, 30), 0);
        Checks.enter(x, 2, "c1 n2 o2");
        CHECKS.due("the same formula", x.locked(), 1);
        CHECKS.due("waived again", x.waive(2, 3, 30), 0);
        x.input(2, 0, 0);
        CHECKS.due("a range", x.locked(), 1);
        CHECKS.due("waived once more", x.waive(2, 3, 30), 0);
        x.input(2, 0, 0);
        CHECKS.due("the same range", x.locked(), 1);
        CHECKS.due("waived for today", x.waive(2, 3, 0), 0);
        CHECKS.dueOutcome("not on top of that", x, y -> y.waive(2, 3, 30), STOPPED.getSimpleName());
        x.input(1, 0, 0);
        x.set(0, 1);
        x.own(2, 4);
        Checks.outcome(x, y -> y.input(2, 1, 0));
        Checks.outcome(x, y -> y.enter(2));
        CHECKS.due("nothing else ends it", x.locked(), 0);
        CHECKS.due("but the day behind it", x.pass(1), 1);
    }

    private static Supplier<Gridprobe> onDay(int day) {
        return () -> {
            Gridprobe x = desk();
            while (x.today() < day) {
                x.pass(Math.min(100, day - x.today()));
            }
            return x;
        };
    }

    /** "days: 1 to 100"; "if today would be above 10000". */
    private static void promise14Pass() {
        Gridprobe x = desk();
        CHECKS.due("the waiver's last day but one", x.pass(1), 1);
        CHECKS.due("a day", x.today(), 1);
        CHECKS.due("100 days", x.pass(100), 2);
        CHECKS.due("101 days", x.today(), 101);
        Gridprobe late = onDay(9900).get();
        CHECKS.due("up to 10000", late.pass(100), 2);
        CHECKS.due("10000", late.today(), 10000);
        CHECKS.due("a waiver beyond the last day", late.waive(2, 3, 30), 0);
        CHECKS.dueThrows("10001 by 100", STOPPED, onDay(9901), y -> y.pass(100));
        CHECKS.dueThrows("10001 by 1", STOPPED, onDay(10000), y -> y.pass(1));
        CHECKS.dueThrows("10100 by 100", STOPPED, onDay(10000), y -> y.pass(100));
        for (int days : new int[] {0, 101, -1, LEAST_INT, GREATEST_INT}) {
            refused("pass " + days, WRONG, y -> y.pass(days));
            CHECKS.dueThrows("pass " + days + " at the end", WRONG, onDay(10000), y -> y.pass(days));
        }
    }

    private static void promise15Drafted() {
        Gridprobe x = new Gridprobe();
        CHECKS.due("none", x.drafted(), 0);
        for (int part = 1; part <= 12; part++) {
            if (part % 3 == 0) {
                x.apply(0);
            } else {
                x.cell(part);
            }
            CHECKS.due("part " + part, x.drafted(), part);
        }
        Checks.outcome(x, y -> y.number(1));
        CHECKS.due("a refused part", x.drafted(), 12);
    }

    private static void promise16Today() {
        CHECKS.due("at first", new Gridprobe().today(), 0);
        CHECKS.due("at the end", onDay(10000).get().today(), 10000);
    }

    /** "The set, in which cell k counts 2 to the power of k." */
    private static void promise17Reads() {
        Gridprobe x = new Gridprobe();
        for (int cell = 0; cell < 16; cell++) {
            Gridprobe y = new Gridprobe();
            y.cell(cell);
            y.enter(cell == 5 ? 6 : 5);
            CHECKS.due("2 to the power of " + cell, y.reads(cell == 5 ? 6 : 5), 1 << cell);
        }
        CHECKS.due("none", x.reads(0), 0);
        Checks.enter(x, 7, "c0 c15 c0 c14 c15 c1 o0 o0 o0 o0 o0");
        CHECKS.due("each once", x.reads(7), 49155);
        x.input(7, 0, 0);
        CHECKS.due("an input again", x.reads(7), 0);
        for (int cell : NO_CELLS) {
            refused("reads " + cell, OUTSIDE, y -> y.reads(cell));
        }
    }

    private static void promise18Rests() {
        Gridprobe x = new Gridprobe();
        CHECKS.due("none", x.rests(15), 0);
        for (int cell = 1; cell < 16; cell++) {
            x.cell(cell - 1);
            x.enter(cell);
            CHECKS.due("rests of " + cell, x.rests(cell), (1 << cell) - 1);
        }
        x.input(8, 0, 0);
        CHECKS.due("down to 8", x.rests(15), 32768 - 256);
        CHECKS.due("of 8", x.rests(8), 0);
        for (int cell : NO_CELLS) {
            refused("rests " + cell, OUTSIDE, y -> y.rests(cell));
        }
    }

    /** "if it is locked"; "if it is a fault"; the first named is thrown. */
    private static void promise19Show() {
        Gridprobe x = desk();
        CHECKS.due("as it is", x.show(1), 3);
        CHECKS.due("waived, over a locked one", x.show(3), 6);
        refused("locked", STOPPED, y -> y.show(2));
        refused("a fault", FAULT, y -> y.show(4));
        fail(x, 4);
        CHECKS.dueOutcome("locked and a fault", x, y -> y.show(4), STOPPED.getSimpleName());
        x.waive(4, 0, 0);
        CHECKS.dueOutcome("waived and a fault", x, y -> y.show(4), FAULT.getSimpleName());
        for (int cell : NO_CELLS) {
            refused("show " + cell, OUTSIDE, y -> y.show(cell));
        }
    }

    private static void promise20Verdict() {
        CHECKS.due("UNTRIED", desk().verdict(0), 0);
        CHECKS.due("PASSED", desk().verdict(1), 1);
        CHECKS.due("FAILED", desk().verdict(2), 2);
        for (int cell : NO_CELLS) {
            refused("verdict " + cell, OUTSIDE, x -> x.verdict(cell));
        }
    }

    /** "0 for the first one it had then, and so on; NONE if it is not FAILED". */
    private static void promise21Failing() {
        for (int broken = 0; broken < 4; broken++) {
            Gridprobe x = desk();
            for (int told = 0; told < 4; told++) {
                x.tell(12, Gridprobe.MOST, told == broken ? -1 : 0);
            }
            x.attempt(12, 0, 1);
            CHECKS.due("failing", x.failing(12), broken);
            x.drop(12);
            CHECKS.due("as it was told", x.failing(12), broken);
            x.attempt(12, 0, 1);
            CHECKS.due("PASSED", x.failing(12), Gridprobe.NONE);
        }
        CHECKS.due("UNTRIED", desk().failing(0), Gridprobe.NONE);
        for (int cell : NO_CELLS) {
            refused("failing " + cell, OUTSIDE, x -> x.failing(cell));
        }
    }

    /** "if the first one has no example, or the other one was no input then". */
    private static void promise22Example() {
        Gridprobe x = desk();
        CHECKS.due("with 0", x.example(2, 0), -5);
        CHECKS.due("with 15", x.example(2, 15), 0);
        CHECKS.dueOutcome("with a formula", x, y -> y.example(2, 1), ABSENT.getSimpleName());
        CHECKS.dueOutcome("with itself", x, y -> y.example(2, 2), ABSENT.getSimpleName());
        x.input(1, 0, 0);
        x.input(2, 0, 0);
        Checks.draft(x, "o0");
        x.enter(0);
        CHECKS.due("an input then", x.example(2, 0), -5);
        CHECKS.dueOutcome("a formula then", x, y -> y.example(2, 1), ABSENT.getSimpleName());
        CHECKS.dueOutcome("itself then", x, y -> y.example(2, 2), ABSENT.getSimpleName());
        refused("of UNTRIED", ABSENT, y -> y.example(0, 0));
        refused("of PASSED", ABSENT, y -> y.example(1, 0));
        refused("of one that was mended", ABSENT, y -> y.example(9, 9));
        for (int cell : NO_CELLS) {
            refused("of " + cell, OUTSIDE, y -> y.example(cell, 0));
            refused("with " + cell, OUTSIDE, y -> y.example(2, cell));
            refused("of none with " + cell, OUTSIDE, y -> y.example(0, cell));
            refused("of and with " + cell, OUTSIDE, y -> y.example(cell, cell));
        }
    }

    /** "0 to 60; NONE if it has no example". */
    private static void promise23Smaller() {
        CHECKS.due("0", desk().smaller(2), 0);
        CHECKS.due("none, UNTRIED", desk().smaller(0), Gridprobe.NONE);
        CHECKS.due("none, PASSED", desk().smaller(1), Gridprobe.NONE);
        Gridprobe x = new Gridprobe();
        x.input(0, 0, 1000);
        x.input(1, 1, 1000);
        Checks.enter(x, 2, "c0 c1 o1 n1 o11 n0 o7");
        x.tell(2, Gridprobe.MOST, 0);
        x.attempt(2, 0, 2);
        CHECKS.due("60", x.smaller(2), 60);
        x.drop(2);
        x.attempt(2, 0, 2);
        CHECKS.due("none, mended", x.smaller(2), Gridprobe.NONE);
        for (int cell : NO_CELLS) {
            refused("smaller " + cell, OUTSIDE, y -> y.smaller(cell));
        }
    }

    private static Gridprobe chain() {
        Gridprobe x = new Gridprobe();
        for (int cell = 1; cell < 16; cell++) {
            x.cell(cell - 1);
            x.enter(cell);
        }
        return x;
    }

    private static void dueLocks(String what, Gridprobe x, int want) {
        for (int cell = 0; cell < 16; cell++) {
            boolean wanted = (want >> cell & 1) == 1;
            CHECKS.due(what + ": isLocked " + cell, x.isLocked(cell), wanted);
            CHECKS.due(what + ": isLockedByWays " + cell, x.isLockedByWays(cell), wanted);
        }
        CHECKS.due(what + ": locked", x.locked(), Integer.bitCount(want));
    }

    /** "A cell is locked, if it is FAILED, or reads a locked one; but it is not locked, if a waiver for it holds." */
    private static void promise24IsLocked() {
        dueLocks("none", chain(), 0);
        Gridprobe x = chain();
        fail(x, 0);
        dueLocks("all", x, 65535);
        CHECKS.due("waived at its end", x.waive(15, 0, 0), 15);
        dueLocks("all but the last one", x, 32767);
        CHECKS.due("waived at its source", x.waive(0, 0, 1), 0);
        dueLocks("none at all", x, 0);
        fail(x, 15);
        dueLocks("FAILED and waived", x, 0);
        CHECKS.due("the day behind it", x.pass(1), 1);
        dueLocks("15 alone, as 0 is waived", x, 32768);
        CHECKS.due("both are over", x.pass(1), 16);
        x.waive(7, 0, 30);
        dueLocks("cut in the middle, 15 FAILED itself", x, 32768 + 127);
        x.input(7, 0, 0);
        dueLocks("the waiver ends, and so does the way", x, 32768 + 127);
        for (int cell : NO_CELLS) {
            refused("isLocked " + cell, OUTSIDE, y -> y.isLocked(cell));
        }
    }

    /** "... by looking for a way from it, by what cells read, over cells without waivers to a FAILED one". */
    private static void promise25IsLockedByWays() {
        Gridprobe x = chain();
        fail(x, 3);
        CHECKS.due("to itself", x.isLockedByWays(3), true);
        CHECKS.due("over 12 steps", x.isLockedByWays(15), true);
        CHECKS.due("not the other way", x.isLockedByWays(2), false);
        x.waive(9, 0, 3);
        CHECKS.due("not from a waived one", x.isLockedByWays(9), false);
        CHECKS.due("nor over it", x.isLockedByWays(10), false);
        CHECKS.due("but up to it", x.isLockedByWays(8), true);
        Checks.enter(x, 10, "c9 c8 o0");
        CHECKS.due("round it", x.isLockedByWays(10), true);
        x.waive(3, 0, 0);
        CHECKS.due("nor to a waived one", x.isLockedByWays(10), false);
        for (int cell : NO_CELLS) {
            refused("isLockedByWays " + cell, OUTSIDE, y -> y.isLockedByWays(cell));
        }
    }

    /** "A cell is marked, if it is FAILED, or rests on a FAILED one." */
    private static void promise26IsMarked() {
        Gridprobe x = chain();
        for (int cell = 0; cell < 16; cell++) {
            CHECKS.due("none is FAILED: " + cell, x.isMarked(cell), false);
        }
        fail(x, 1);
        x.waive(1, 0, 30);
        for (int cell = 0; cell < 16; cell++) {
            CHECKS.due("1 is FAILED and waived: " + cell, x.isMarked(cell), cell > 0);
        }
        mend(x, 1);
        for (int cell = 0; cell < 16; cell++) {
            CHECKS.due("1 is mended: " + cell, x.isMarked(cell), false);
        }
        for (int cell : NO_CELLS) {
            refused("isMarked " + cell, OUTSIDE, y -> y.isMarked(cell));
        }
    }

    private static void promise27Locked() {
        Gridprobe x = new Gridprobe();
        CHECKS.due("none", x.locked(), 0);
        for (int cell = 0; cell < 16; cell++) {
            fail(x, cell);
            CHECKS.due("up to " + cell, x.locked(), cell + 1);
        }
        for (int cell = 15; cell >= 0; cell--) {
            mend(x, cell);
            CHECKS.due("below " + cell, x.locked(), cell);
        }
    }

    /** "0 if there was none"; "what was unlocked by the last such trial, perhaps nothing, is kept". */
    private static void promise28Unlocked() {
        Gridprobe x = chain();
        CHECKS.due("none", x.unlocked(), 0);
        mend(x, 0);
        CHECKS.due("one passed that was not FAILED", x.unlocked(), 0);
        fail(x, 0);
        CHECKS.due("one failed", x.unlocked(), 0);
        mend(x, 0);
        CHECKS.due("all", x.unlocked(), 16);
        mend(x, 0);
        fail(x, 15);
        CHECKS.due("kept", x.unlocked(), 16);
        mend(x, 15);
        CHECKS.due("one", x.unlocked(), 1);
        fail(x, 3);
        fail(x, 2);
        mend(x, 3);
        CHECKS.due("nothing, as 2 locks it still", x.unlocked(), 0);
        x.waive(4, 0, 0);
        mend(x, 2);
        CHECKS.due("2 and 3, as 4 was waived", x.unlocked(), 2);
        fail(x, 7);
        x.waive(7, 0, 0);
        mend(x, 7);
        CHECKS.due("nothing, as 7 was waived itself", x.unlocked(), 0);
    }

    /** "index: from 0, in the order in which they were unlocked"; "if there are not so many". */
    private static void promise29UnlockedAt() {
        Supplier<Gridprobe> all = () -> {
            Gridprobe x = chain();
            fail(x, 0);
            mend(x, 0);
            return x;
        };
        for (int index = 0; index < 16; index++) {
            CHECKS.due("index " + index, all.get().unlockedAt(index), index);
        }
        CHECKS.dueText("9, then its reader", Checks.unlockedRow(desk()), "9 8");
        for (int index : new int[] {-1, 16, LEAST_INT, GREATEST_INT}) {
            CHECKS.dueThrows("index " + index, OUTSIDE, all, x -> x.unlockedAt(index));
        }
        refused("index 2 of 2", OUTSIDE, x -> x.unlockedAt(2));
        CHECKS.dueThrows("index 0 of none", OUTSIDE, Gridprobe::new, x -> x.unlockedAt(0));
        CHECKS.dueThrows("index -1 of none", OUTSIDE, Gridprobe::new, x -> x.unlockedAt(-1));
        Gridprobe fewer = all.get();
        fail(fewer, 14);
        mend(fewer, 14);
        CHECKS.dueText("the row before is gone", Checks.unlockedRow(fewer), "14 15");
        CHECKS.dueOutcome("index 2 of 2 now", fewer, x -> x.unlockedAt(2), OUTSIDE.getSimpleName());
    }
}
