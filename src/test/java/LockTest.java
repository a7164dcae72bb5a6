import java.util.function.Supplier;

/** Promises 13, 14, 16 and 24 to 29: waive, pass, today, locks, marks, and what was unlocked. */
public final class LockTest {
    private static final Checks CHECKS = new Checks();
    private static final int[] NO_CELLS = {-1, 16, Integer.MIN_VALUE, Integer.MAX_VALUE};
    private static final int LEAST_INT = Integer.MIN_VALUE, GREATEST_INT = Integer.MAX_VALUE;

    public static void main(String[] args) {
        locksSpread();
        locksFollowFormulas();
        marksSpread();
        waiverStopsLocks();
        waiverLastsToItsLastDay();
        waiverEndsByRangeOrFormula();
        waiverStaysOtherwise();
        waiverOfOneWayAlone();
        waiveRefuses();
        passPromise();
        unlockedInOrder();
        unlockedOnlyWhatIsFree();
        unlockedIsKept();
        askingRefuses();
        CHECKS.close();
    }

    /** Makes a cell FAILED by a property that no value meets; the next trial after a drop is passed. */
    private static void fail(Gridprobe x, int cell) {
        x.tell(cell, Gridprobe.LEAST, GREATEST_INT);
        x.attempt(cell, 0, 1);
        x.drop(cell);
    }

    private static int mend(Gridprobe x, int cell) {
        return x.attempt(cell, 0, 1);
    }

    private static void dueLocked(String what, Gridprobe x, int want) {
        int set = 0;
        int byWays = 0;
        for (int cell = 0; cell < 16; cell++) {
            set |= x.isLocked(cell) ? 1 << cell : 0;
            byWays |= x.isLockedByWays(cell) ? 1 << cell : 0;
        }
        CHECKS.due(what + ": isLocked", set, want);
        CHECKS.due(what + ": isLockedByWays", byWays, want);
        CHECKS.due(what + ": locked", x.locked(), Integer.bitCount(want));
    }

    private static void dueMarked(String what, Gridprobe x, int want) {
        int set = 0;
        for (int cell = 0; cell < 16; cell++) {
            set |= x.isMarked(cell) ? 1 << cell : 0;
        }
        CHECKS.due(what + ": isMarked", set, want);
    }

    /** 2 reads 0 and 1, 3 reads 2, 8 reads 3 and 1, 7 reads 8, 9 reads 1 alone. */
    private static Gridprobe sheet() {
        Gridprobe x = new Gridprobe();
        Checks.enter(x, 2, "c0 c1 o0");
        Checks.enter(x, 3, "c2");
        Checks.enter(x, 8, "c3 c1 o0");
        Checks.enter(x, 7, "c8");
        Checks.enter(x, 9, "c1");
        return x;
    }

    private static int set(int... cells) {
        int set = 0;
        for (int cell : cells) {
            set |= 1 << cell;
        }
        return set;
    }

    private static void locksSpread() {
        Gridprobe x = sheet();
        dueLocked("none FAILED", x, 0);
        fail(x, 2);
        dueLocked("2 FAILED", x, set(2, 3, 7, 8));
        fail(x, 1);
        dueLocked("1 and 2 FAILED", x, set(1, 2, 3, 7, 8, 9));
        mend(x, 2);
        dueLocked("1 FAILED", x, set(1, 2, 3, 7, 8, 9));
        mend(x, 1);
        dueLocked("all mended", x, 0);
        fail(x, 15);
        dueLocked("one that none reads", x, set(15));
        Gridprobe chain = new Gridprobe();
        for (int cell = 0; cell < 15; cell++) {
            Checks.enter(chain, cell, "c" + (cell + 1));
        }
        fail(chain, 15);
        dueLocked("a chain of all", chain, 65535);
    }

    private static void locksFollowFormulas() {
        Gridprobe x = sheet();
        fail(x, 2);
        Checks.enter(x, 3, "c9");
        dueLocked("3 reads 2 no more", x, set(2));
        Checks.enter(x, 9, "c2");
        dueLocked("but by 9", x, set(2, 3, 7, 8, 9));
        x.input(2, 0, 0);
        dueLocked("an input stays FAILED", x, set(2, 3, 7, 8, 9));
    }

    private static void marksSpread() {
        Gridprobe x = sheet();
        dueMarked("none FAILED", x, 0);
        fail(x, 2);
        dueMarked("2 FAILED", x, set(2, 3, 7, 8));
        x.waive(2, 0, 30);
        x.tell(3, Gridprobe.LEAST, 0);
        dueMarked("waived, still marked", x, set(2, 3, 7, 8));
        fail(x, 9);
        dueMarked("9 FAILED too", x, set(2, 3, 7, 8, 9));
        mend(x, 2);
        dueMarked("2 mended", x, set(9));
    }

    private static void waiverStopsLocks() {
        Gridprobe x = sheet();
        fail(x, 2);
        x.own(3, 5);
        CHECKS.due("waive 3", x.waive(3, 5, 30), 1);
        dueLocked("2 alone", x, set(2));
        fail(x, 3);
        dueLocked("a FAILED one with a waiver", x, set(2));
        fail(x, 8);
        dueLocked("8 FAILED behind it", x, set(2, 7, 8));
        CHECKS.due("waive 7", x.waive(7, 0, 0), 2);
        CHECKS.due("waive 2", x.waive(2, 0, 1), 1);
        dueLocked("8 alone", x, set(8));
    }

    private static void waiverLastsToItsLastDay() {
        Gridprobe x = sheet();
        fail(x, 2);
        x.pass(10);
        CHECKS.due("waive for today", x.waive(3, 0, 0), 1);
        CHECKS.due("tomorrow", x.pass(1), 4);
        CHECKS.due("waive for 30 days", x.waive(2, 0, 30), 0);
        CHECKS.due("29 days on", x.pass(29), 0);
        CHECKS.due("30 days on", x.pass(1), 0);
        dueLocked("its last day", x, 0);
        CHECKS.due("31 days on", x.pass(1), 4);
        dueLocked("the day behind it", x, set(2, 3, 7, 8));
        CHECKS.due("waive again", x.waive(2, 0, 2), 0);
        CHECKS.due("two days", x.pass(2), 0);
        CHECKS.due("three days", x.pass(1), 4);
    }

    private static void waiverEndsByRangeOrFormula() {
        Gridprobe x = sheet();
        fail(x, 2);
        x.waive(2, 0, 30);
        Checks.enter(x, 2, "c0");
        dueLocked("a formula ends it", x, set(2, 3, 7, 8));
        x.waive(2, 0, 30);
        x.input(2, 0, 5);
        dueLocked("a range ends it", x, set(2, 3, 7, 8));
        x.waive(3, 0, 30);
        x.input(3, 0, 5);
        dueLocked("nothing left to waive", x, set(2));
        fail(x, 3);
        dueLocked("and 3 FAILED is locked", x, set(2, 3, 7, 8));
    }

    private static void waiverStaysOtherwise() {
        Gridprobe x = sheet();
        fail(x, 2);
        x.waive(2, 0, 30);
        x.own(2, 4);
        x.tell(2, Gridprobe.LEAST, 1);
        x.input(0, 0, 3);
        Checks.enter(x, 3, "c2 n1 o0");
        x.set(0, 2);
        x.drop(2);
        dueLocked("owner, property, others", x, 0);
        mend(x, 2);
        CHECKS.due("nothing was locked", x.unlocked(), 0);
        fail(x, 2);
        dueLocked("FAILED again under the waiver", x, 0);
    }

    private static void waiverOfOneWayAlone() {
        Gridprobe x = sheet();
        fail(x, 1);
        x.waive(2, 0, 9);
        dueLocked("8 reads 1 itself", x, set(1, 3, 7, 8, 9) & ~set(3));
        x.waive(8, 0, 9);
        dueLocked("both ways", x, set(1, 9));
        x.waive(1, 0, 9);
        dueLocked("at its source", x, 0);
        dueMarked("marks go on", x, set(1, 2, 3, 7, 8, 9));
    }

    private static Gridprobe failedSheet() {
        Gridprobe x = sheet();
        fail(x, 2);
        x.own(2, 3);
        x.own(9, 3);
        x.waive(3, 0, 1);
        return x;
    }

    private static void waiveRefuses() {
        for (int cell : NO_CELLS) {
            refuseWaive(IndexOutOfBoundsException.class, cell, 0, 0);
            refuseWaive(IndexOutOfBoundsException.class, cell, -1, 31);
        }
        for (int owner : new int[] {0, 2, 4, 6, -1, LEAST_INT, GREATEST_INT}) {
            refuseWaive(IllegalArgumentException.class, 2, owner, 0);
            refuseWaive(IllegalArgumentException.class, 9, owner, 0);
        }
        for (int days : new int[] {-1, 31, LEAST_INT, GREATEST_INT}) {
            refuseWaive(IllegalArgumentException.class, 2, 3, days);
            refuseWaive(IllegalArgumentException.class, 9, 3, days);
        }
        refuseWaive(IllegalStateException.class, 9, 3, 0);
        refuseWaive(IllegalStateException.class, 0, 0, 30);
        refuseWaive(IllegalStateException.class, 3, 0, 5);
        CHECKS.due("30 days", failedSheet().waive(2, 3, 30), 0);
    }

    private static void refuseWaive(Class<?> want, int cell, int owner, int days) {
        String what = "waive(" + cell + ", " + owner + ", " + days + ")";
        CHECKS.dueThrows(what, want, LockTest::failedSheet, x -> x.waive(cell, owner, days));
    }

    private static void passPromise() {
        Gridprobe x = failedSheet();
        CHECKS.due("pass a day", x.pass(1), 1);
        CHECKS.due("today", x.today(), 1);
        CHECKS.due("pass 100 days", x.pass(100), 4);
        CHECKS.due("today then", x.today(), 101);
        for (int days : new int[] {0, -1, 101, LEAST_INT, GREATEST_INT}) {
            CHECKS.dueThrows("pass " + days, IllegalArgumentException.class, LockTest::failedSheet, y -> y.pass(days));
        }
        Supplier<Gridprobe> late = () -> {
            Gridprobe y = failedSheet();
            for (int i = 0; i < 99; i++) {
                y.pass(100);
            }
            y.pass(99);
            return y;
        };
        CHECKS.dueText("pass 2 of 9999", Checks.outcome(late.get(), y -> y.pass(2)), "IllegalStateException");
        CHECKS.dueText("pass 100 of 9999", Checks.outcome(late.get(), y -> y.pass(100)), "IllegalStateException");
        CHECKS.dueText("pass 101 of 9999", Checks.outcome(late.get(), y -> y.pass(101)), "IllegalArgumentException");
        Gridprobe last = late.get();
        Checks.outcome(last, y -> y.pass(2));
        CHECKS.due("9999", last.today(), 9999);
        CHECKS.due("pass 1 of 9999", last.pass(1), 4);
        CHECKS.due("10000", last.today(), 10000);
        CHECKS.dueText("pass 1 of 10000", Checks.outcome(last, y -> y.pass(1)), "IllegalStateException");
        CHECKS.due("10000 still", last.today(), 10000);
        CHECKS.due("a waiver of the last day", last.waive(2, 3, 30), 0);
    }

    private static void dueUnlocked(String what, Gridprobe x, String want) {
        CHECKS.dueText(what + ": unlockedAt", Checks.unlockedRow(x), want);
        CHECKS.due(what + ": unlocked", x.unlocked(), want.isEmpty() ? 0 : want.split(" ").length);
    }

    private static void unlockedInOrder() {
        Gridprobe x = sheet();
        fail(x, 1);
        mend(x, 1);
        dueUnlocked("readers of 1, then readers of these", x, "1 2 8 9 3 7");
        Gridprobe y = new Gridprobe();
        Checks.enter(y, 9, "c10");
        Checks.enter(y, 4, "c10");
        Checks.enter(y, 0, "c9");
        Checks.enter(y, 15, "c4");
        Checks.enter(y, 1, "c4 c9 o0");
        Checks.enter(y, 2, "c0 c10 o0");
        fail(y, 10);
        mend(y, 10);
        dueUnlocked("rising numbers behind each one", y, "10 2 4 9 1 15 0");
        Gridprobe chain = new Gridprobe();
        for (int cell = 0; cell < 15; cell++) {
            Checks.enter(chain, cell, "c" + (cell + 1));
        }
        fail(chain, 15);
        mend(chain, 15);
        dueUnlocked("a chain of all", chain, "15 14 13 12 11 10 9 8 7 6 5 4 3 2 1 0");
    }

    private static void unlockedOnlyWhatIsFree() {
        Gridprobe x = sheet();
        fail(x, 1);
        fail(x, 3);
        mend(x, 1);
        dueUnlocked("3 keeps its own and its readers' locks", x, "1 2 9");
        fail(x, 1);
        mend(x, 3);
        dueUnlocked("3 still rests on 1", x, "");
        x.waive(2, 0, 3);
        mend(x, 1);
        dueUnlocked("2 was waived, and 3 with it", x, "1 8 9 7");
        x.pass(4);
        fail(x, 2);
        x.waive(3, 0, 30);
        mend(x, 2);
        dueUnlocked("3 is waived, and 8 and 7 with it", x, "2");
        fail(x, 2);
        x.waive(2, 0, 0);
        mend(x, 2);
        dueUnlocked("the cell itself is waived", x, "");
        x.pass(31);
        fail(x, 3);
        fail(x, 2);
        mend(x, 3);
        dueUnlocked("the cell itself stays locked", x, "");
        Gridprobe through = new Gridprobe();
        Checks.enter(through, 1, "c0");
        Checks.enter(through, 2, "c1");
        Checks.enter(through, 3, "c0 c2 o0");
        Checks.enter(through, 4, "c0");
        Checks.enter(through, 5, "c3");
        fail(through, 0);
        through.waive(3, 0, 9);
        mend(through, 0);
        dueUnlocked("what is not unlocked is left out in the end", through, "0 1 4 2");
    }

    private static void unlockedIsKept() {
        Gridprobe x = sheet();
        dueUnlocked("none at first", x, "");
        fail(x, 2);
        dueUnlocked("a failed trial unlocks nothing", x, "");
        mend(x, 2);
        dueUnlocked("2 mended", x, "2 3 8 7");
        mend(x, 2);
        mend(x, 5);
        fail(x, 3);
        x.input(2, 0, 1);
        Checks.enter(x, 2, "c0");
        x.pass(1);
        dueUnlocked("kept by other trials and changes", x, "2 3 8 7");
        fail(x, 3);
        dueUnlocked("kept by one that fails again", x, "2 3 8 7");
        x.waive(3, 0, 5);
        dueUnlocked("kept by a waiver", x, "2 3 8 7");
        mend(x, 3);
        dueUnlocked("nothing now", x, "");
        fail(x, 12);
        mend(x, 12);
        dueUnlocked("one that none reads", x, "12");
    }

    private static Gridprobe mendedSheet() {
        Gridprobe x = sheet();
        fail(x, 9);
        fail(x, 2);
        mend(x, 2);
        return x;
    }

    private static void askingRefuses() {
        Class<?> noCell = IndexOutOfBoundsException.class;
        for (int cell : NO_CELLS) {
            CHECKS.dueThrows("isLocked " + cell, noCell, LockTest::mendedSheet, x -> x.isLocked(cell));
            CHECKS.dueThrows("isLockedByWays " + cell, noCell, LockTest::mendedSheet, x -> x.isLockedByWays(cell));
            CHECKS.dueThrows("isMarked " + cell, noCell, LockTest::mendedSheet, x -> x.isMarked(cell));
        }
        for (int index : new int[] {-1, 4, 16, LEAST_INT, GREATEST_INT}) {
            CHECKS.dueThrows("unlockedAt " + index, noCell, LockTest::mendedSheet, x -> x.unlockedAt(index));
        }
        CHECKS.dueThrows("unlockedAt of none", noCell, Gridprobe::new, x -> x.unlockedAt(0));
        CHECKS.due("the last one", mendedSheet().unlockedAt(3), 7);
    }
}
