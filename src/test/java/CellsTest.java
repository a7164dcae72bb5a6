import java.util.function.Supplier;

/** Promises 7 to 11 and 16 to 19: input, set, tell, drop, own, today, reads, rests, show, and what formulas are. */
public final class CellsTest {
    private static final Checks CHECKS = new Checks();
    private static final int[] NO_CELLS = {-1, 16, Integer.MIN_VALUE, Integer.MAX_VALUE};
    private static final int LEAST_INT = Integer.MIN_VALUE, GREATEST_INT = Integer.MAX_VALUE;

    public static void main(String[] args) {
        operations();
        faults();
        inputPromise();
        inputCountsUntried();
        setPromise();
        tellPromise();
        dropPromise();
        ownPromise();
        readsAndRests();
        showPromise();
        CHECKS.close();
    }

    private static void operations() {
        operation(0, 3, 4, 7);
        operation(0, GREATEST_INT, 1, LEAST_INT);
        operation(1, 3, 4, -1);
        operation(1, LEAST_INT, 1, GREATEST_INT);
        operation(2, -3, 4, -12);
        operation(2, 65536, 65536, 0);
        operation(2, 65537, 65537, 131073);
        operation(3, 7, 2, 3);
        operation(3, -7, 2, -3);
        operation(3, 7, -2, -3);
        operation(3, 0, 5, 0);
        operation(3, -9, 1, -9);
        operation(3, LEAST_INT, -1, LEAST_INT);
        operation(4, 3, -4, -4);
        operation(4, -5, -4, -5);
        operation(5, 3, -4, 3);
        operation(5, -5, -4, -4);
        operation(6, 3, 4, 1);
        operation(6, 4, 4, 0);
        operation(6, 5, 4, 0);
        operation(6, LEAST_INT, GREATEST_INT, 1);
        operation(7, 4, 4, 1);
        operation(7, 4, 5, 0);
        operation(8, 12, 10, 8);
        operation(8, -1, 10, 10);
        operation(9, 12, 10, 14);
        operation(9, -2, 1, -1);
        operation(10, 3, 4, 48);
        operation(10, 3, 32, 3);
        operation(10, 1, 31, LEAST_INT);
        operation(10, 1, -1, LEAST_INT);
        operation(10, 1, -33, LEAST_INT);
        operation(10, 5, 35, 40);
        operation(11, 48, 4, 3);
        operation(11, -48, 4, -3);
        operation(11, -1, 31, -1);
        operation(11, LEAST_INT, -1, -1);
        operation(11, GREATEST_INT, -31, 1073741823);
        operation(11, 9, LEAST_INT, 9);
    }

    private static void operation(int operation, int first, int second, int want) {
        Gridprobe x = new Gridprobe();
        x.number(first);
        x.number(second);
        x.apply(operation);
        x.enter(0);
        CHECKS.due(first + " by " + operation + " with " + second, x.show(0), want);
    }

    private static void faults() {
        Gridprobe x = new Gridprobe();
        x.input(0, -2, 2);
        x.set(0, 0);
        Checks.enter(x, 1, "n6 c0 o3");
        Checks.enter(x, 2, "n0 c1 o2");
        Checks.enter(x, 3, "c2");
        Checks.enter(x, 4, "n0 n0 o3 n1 o5");
        for (int cell = 1; cell <= 4; cell++) {
            int faulty = cell;
            CHECKS.dueText("fault of " + cell, Checks.outcome(x, y -> y.show(faulty)), "ArithmeticException");
        }
        x.set(0, 2);
        CHECKS.due("no fault any more", x.show(1), 3);
        CHECKS.due("nor behind it", x.show(3), 0);
        for (int operation = 0; operation < 12; operation++) {
            Gridprobe y = new Gridprobe();
            Checks.enter(y, 0, "n1 n0 o3");
            Checks.enter(y, 1, "c0 n1 o" + operation);
            Checks.enter(y, 2, "n1 c0 o" + operation);
            CHECKS.dueText("fault first, " + operation, Checks.outcome(y, z -> z.show(1)), "ArithmeticException");
            CHECKS.dueText("fault second, " + operation, Checks.outcome(y, z -> z.show(2)), "ArithmeticException");
        }
    }

    private static void inputPromise() {
        Gridprobe x = new Gridprobe();
        CHECKS.due("input", x.input(4, -7, 9), 0);
        CHECKS.due("its value is the lowest one", x.show(4), -7);
        x.set(4, 9);
        x.input(4, -3, 9);
        CHECKS.due("its value is the lowest one again", x.show(4), -3);
        x.input(4, -1000000, -1000000);
        CHECKS.due("the least", x.show(4), -1000000);
        x.input(15, 1000000, 1000000);
        CHECKS.due("the greatest", x.show(15), 1000000);
        Checks.enter(x, 4, "c15");
        x.input(4, 1, 2);
        CHECKS.due("an input reads nothing", x.reads(4), 0);
        CHECKS.due("an input rests on nothing", x.rests(4), 0);
        CHECKS.due("an input for a formula", x.set(4, 2), 1);
        for (int cell : NO_CELLS) {
            refuseInput(IndexOutOfBoundsException.class, cell, 0, 0);
            refuseInput(IndexOutOfBoundsException.class, cell, 1, 0);
        }
        refuseInput(IllegalArgumentException.class, 0, -1000001, 0);
        refuseInput(IllegalArgumentException.class, 0, 0, 1000001);
        refuseInput(IllegalArgumentException.class, 0, 1000001, 1000001);
        refuseInput(IllegalArgumentException.class, 0, 1, 0);
        refuseInput(IllegalArgumentException.class, 5, LEAST_INT, GREATEST_INT);
        refuseInput(IllegalArgumentException.class, 5, GREATEST_INT, LEAST_INT);
    }

    private static void refuseInput(Class<?> want, int cell, int low, int high) {
        String what = "input(" + cell + ", " + low + ", " + high + ")";
        CHECKS.dueThrows(what, want, CellsTest::sheet, x -> x.input(cell, low, high));
    }

    private static void inputCountsUntried() {
        Gridprobe x = new Gridprobe();
        Checks.enter(x, 1, "c0");
        Checks.enter(x, 2, "c1");
        Checks.enter(x, 3, "c5");
        for (int cell = 0; cell < 4; cell++) {
            x.attempt(cell, 0, 1);
        }
        CHECKS.due("0, 1 and 2 were PASSED", x.input(0, 0, 3), 3);
        CHECKS.due("0", x.verdict(0), Gridprobe.UNTRIED);
        CHECKS.due("1", x.verdict(1), Gridprobe.UNTRIED);
        CHECKS.due("2", x.verdict(2), Gridprobe.UNTRIED);
        CHECKS.due("3", x.verdict(3), Gridprobe.PASSED);
        x.attempt(2, 0, 1);
        CHECKS.due("set changes no verdict", x.set(0, 1), 0);
        CHECKS.due("2 stays", x.verdict(2), Gridprobe.PASSED);
        x.tell(1, Gridprobe.LEAST, 9);
        x.attempt(1, 0, 1);
        CHECKS.due("2 was PASSED", x.input(0, 0, 4), 1);
        CHECKS.due("FAILED stays", x.verdict(1), Gridprobe.FAILED);
    }

    private static void setPromise() {
        Gridprobe x = new Gridprobe();
        x.input(15, -5, 5);
        CHECKS.due("set", x.set(15, 5), -5);
        CHECKS.due("set again", x.set(15, -5), 5);
        CHECKS.due("set to the same", x.set(15, -5), -5);
        CHECKS.due("shown", x.show(15), -5);
        for (int cell : NO_CELLS) {
            CHECKS.dueThrows("set " + cell, IndexOutOfBoundsException.class, CellsTest::sheet, y -> y.set(cell, 0));
        }
        CHECKS.dueThrows("set a formula", IllegalStateException.class, CellsTest::sheet, y -> y.set(1, 0));
        CHECKS.dueThrows("set a formula", IllegalStateException.class, CellsTest::sheet, y -> y.set(1, GREATEST_INT));
        for (int value : new int[] {-6, 102, LEAST_INT, GREATEST_INT}) {
            CHECKS.dueThrows("set to " + value, IllegalArgumentException.class, CellsTest::sheet, y -> y.set(0, value));
        }
    }

    private static void tellPromise() {
        Gridprobe x = new Gridprobe();
        CHECKS.due("LEAST", x.tell(0, Gridprobe.LEAST, LEAST_INT), 1);
        CHECKS.due("MOST", x.tell(0, Gridprobe.MOST, GREATEST_INT), 2);
        CHECKS.due("SAME", x.tell(0, Gridprobe.SAME, 0), 3);
        CHECKS.due("RISING", x.tell(0, Gridprobe.RISING, 15), 4);
        CHECKS.due("of another cell", x.tell(15, Gridprobe.SAME, 15), 1);
        x.attempt(15, 0, 1);
        x.attempt(14, 0, 1);
        x.tell(15, Gridprobe.LEAST, 1);
        CHECKS.due("PASSED is UNTRIED then", x.verdict(15), Gridprobe.UNTRIED);
        CHECKS.due("that of another stays", x.verdict(14), Gridprobe.PASSED);
        x.attempt(15, 0, 1);
        x.tell(15, Gridprobe.LEAST, 0);
        CHECKS.due("FAILED stays", x.verdict(15), Gridprobe.FAILED);
        Checks.enter(x, 13, "c14");
        x.attempt(13, 0, 1);
        x.tell(14, Gridprobe.LEAST, 0);
        CHECKS.due("what reads it stays", x.verdict(13), Gridprobe.PASSED);
        for (int cell : NO_CELLS) {
            refuseTell(IndexOutOfBoundsException.class, cell, Gridprobe.LEAST, 0);
            refuseTell(IndexOutOfBoundsException.class, cell, 4, 0);
            refuseTell(IndexOutOfBoundsException.class, 0, Gridprobe.SAME, cell);
            refuseTell(IndexOutOfBoundsException.class, 0, Gridprobe.RISING, cell);
            refuseTell(IndexOutOfBoundsException.class, 3, Gridprobe.SAME, cell);
            refuseTell(IllegalArgumentException.class, 0, -1, cell);
        }
        for (int kind : new int[] {-1, 4, LEAST_INT, GREATEST_INT}) {
            refuseTell(IllegalArgumentException.class, 0, kind, 0);
            refuseTell(IllegalArgumentException.class, 3, kind, 0);
        }
        for (int kind = 0; kind < 4; kind++) {
            refuseTell(IllegalStateException.class, 3, kind, 0);
        }
    }

    private static void refuseTell(Class<?> want, int cell, int kind, int n) {
        String what = "tell(" + cell + ", " + kind + ", " + n + ")";
        CHECKS.dueThrows(what, want, CellsTest::sheet, x -> x.tell(cell, kind, n));
    }

    private static void dropPromise() {
        Gridprobe x = sheet();
        CHECKS.due("drop", x.drop(3), 4);
        CHECKS.due("drop again", x.drop(3), 0);
        CHECKS.due("tell after drop", x.tell(3, Gridprobe.LEAST, 2), 1);
        CHECKS.due("the one told then counts", x.attempt(3, 0, 1), 0);
        CHECKS.due("drop of a FAILED one", x.drop(2), 1);
        CHECKS.due("it stays FAILED", x.verdict(2), Gridprobe.FAILED);
        CHECKS.due("and so does its example", x.example(2, 0), -5);
        CHECKS.due("a trial without properties passes", x.attempt(2, 0, 20), Gridprobe.NONE);
        x.tell(2, Gridprobe.LEAST, LEAST_INT);
        x.attempt(2, 0, 20);
        x.drop(2);
        CHECKS.due("PASSED stays", x.verdict(2), Gridprobe.PASSED);
        for (int cell : NO_CELLS) {
            CHECKS.dueThrows("drop " + cell, IndexOutOfBoundsException.class, CellsTest::sheet, y -> y.drop(cell));
        }
    }

    private static void ownPromise() {
        Gridprobe x = new Gridprobe();
        CHECKS.due("own", x.own(0, 5), 0);
        CHECKS.due("own again", x.own(0, 2), 5);
        CHECKS.due("own of another", x.own(15, 1), 0);
        CHECKS.due("own back", x.own(0, 0), 2);
        for (int cell : NO_CELLS) {
            CHECKS.dueThrows("own " + cell, IndexOutOfBoundsException.class, CellsTest::sheet, y -> y.own(cell, 0));
            CHECKS.dueThrows("own " + cell, IndexOutOfBoundsException.class, CellsTest::sheet, y -> y.own(cell, 6));
        }
        for (int owner : new int[] {-1, 6, LEAST_INT, GREATEST_INT}) {
            CHECKS.dueThrows("owner " + owner, IllegalArgumentException.class, CellsTest::sheet, y -> y.own(2, owner));
        }
    }

    private static void readsAndRests() {
        Gridprobe x = new Gridprobe();
        Checks.enter(x, 9, "c15 c2 o0 c2 o0");
        Checks.enter(x, 1, "c9 n3 o0");
        Checks.enter(x, 0, "c1 c4 o0");
        CHECKS.due("reads of 9", x.reads(9), 32768 + 4);
        CHECKS.due("rests of 9", x.rests(9), 32768 + 4);
        CHECKS.due("reads of 0", x.reads(0), 2 + 16);
        CHECKS.due("rests of 0", x.rests(0), 2 + 16 + 512 + 32768 + 4);
        Checks.enter(x, 2, "c3");
        CHECKS.due("rests follow far away", x.rests(0), 2 + 16 + 512 + 32768 + 4 + 8);
        x.input(9, 0, 0);
        CHECKS.due("rests fall away", x.rests(0), 2 + 16 + 512);
        CHECKS.due("reads stay", x.reads(0), 2 + 16);
        Checks.enter(x, 0, "n5");
        CHECKS.due("a number reads nothing", x.reads(0), 0);
        CHECKS.due("nor rests on it", x.rests(0), 0);
        Gridprobe chain = new Gridprobe();
        for (int cell = 0; cell < 15; cell++) {
            Checks.enter(chain, cell, "c" + (cell + 1) + " n1 o0");
        }
        chain.input(15, 100, 200);
        CHECKS.due("rests along all", chain.rests(0), 65534);
        CHECKS.due("show along all", chain.show(0), 115);
        CHECKS.dueText("no ring", Checks.outcome(chain, y -> Checks.enter(y, 15, "c0")), "IllegalStateException");
        for (int cell : NO_CELLS) {
            CHECKS.dueThrows("reads " + cell, IndexOutOfBoundsException.class, CellsTest::sheet, y -> y.reads(cell));
            CHECKS.dueThrows("rests " + cell, IndexOutOfBoundsException.class, CellsTest::sheet, y -> y.rests(cell));
        }
    }

    private static void showPromise() {
        Gridprobe x = new Gridprobe();
        x.input(0, 2, 50);
        Checks.enter(x, 5, "c0 c0 o2");
        CHECKS.due("by the lowest one", x.show(5), 4);
        x.set(0, 7);
        CHECKS.due("by the one set", x.show(5), 49);
        x.tell(5, Gridprobe.MOST, 40);
        x.attempt(5, 0, 2);
        CHECKS.due("a trial leaves the values", x.show(0), 7);
        Checks.enter(x, 6, "n1 n0 o3 c5 o0");
        CHECKS.dueText("locked", Checks.outcome(x, y -> y.show(5)), "IllegalStateException");
        CHECKS.dueText("locked and a fault", Checks.outcome(x, y -> y.show(6)), "IllegalStateException");
        x.waive(5, 0, 0);
        CHECKS.due("waived", x.show(5), 49);
        CHECKS.dueText("not locked, a fault", Checks.outcome(x, y -> y.show(6)), "ArithmeticException");
        CHECKS.dueThrows("show locked", IllegalStateException.class, CellsTest::sheet, y -> y.show(2));
        CHECKS.dueThrows("show a fault", ArithmeticException.class, CellsTest::sheet, y -> y.show(4));
        for (int cell : NO_CELLS) {
            CHECKS.dueThrows("show " + cell, IndexOutOfBoundsException.class, CellsTest::sheet, y -> y.show(cell));
        }
    }

    /** 0 is an input, 1 PASSED, 2 FAILED, 3 has 4 properties, 4 is a fault; a draft is begun. */
    private static Gridprobe sheet() {
        Gridprobe x = new Gridprobe();
        x.input(0, -5, 101);
        x.set(0, 3);
        Checks.enter(x, 1, "c0 n1 o0");
        Checks.enter(x, 2, "c1 n2 o2");
        Checks.enter(x, 4, "n4 n0 o3");
        x.attempt(1, 0, 3);
        x.tell(2, Gridprobe.LEAST, 0);
        x.attempt(2, 0, 1);
        x.own(2, 3);
        for (int i = 0; i < 4; i++) {
            x.tell(3, Gridprobe.LEAST, 0);
        }
        x.attempt(3, 0, 1);
        Checks.draft(x, "n1 c7");
        return x;
    }
}
