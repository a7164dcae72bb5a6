import java.util.LinkedHashMap;
import java.util.Map;
import java.util.function.Supplier;
import java.util.function.ToLongBiFunction;

/** The sentences of the document's Terms that name a boundary: a test for each, the sentence ahead of it. */
public final class BoundaryTermsTest {
    private static final Checks CHECKS = new Checks();
    private static final int LEAST_INT = Integer.MIN_VALUE, GREATEST_INT = Integer.MAX_VALUE;
    private static final String OUTSIDE = "IndexOutOfBoundsException", WRONG = "IllegalArgumentException";
    private static final String STOPPED = "IllegalStateException", FAULT = "ArithmeticException";

    public static void main(String[] args) {
        callsUpToThe512th();
        cellsFrom0To15();
        inputsAtFirst();
        valuesGoRound();
        operationsAtTheirEdges();
        movedByTheRemainderBy32();
        atMost12Parts();
        dividingBy0();
        noCellRestsOnItself();
        atMostFourProperties();
        leastAndMostAtTheirNumber();
        sameAsACell();
        risingAtTheHighestValue();
        risingByLittle();
        faultsLookedAt();
        CHECKS.close();
    }

    /** "An object is used for at most 512 calls after it has been made": so the 512th one answers as due. */
    private static void callsUpToThe512th() {
        Gridprobe x = new Gridprobe();
        for (int call = 1; call <= 85; call++) {
            x.number(call);
            x.cell(15);
            x.apply(0);
            x.enter(call % 15);
            x.attempt(call % 15, call, 20);
            x.input(15, call, 1000);
        }
        CHECKS.due("call 511", x.show(85 % 15), 85 + 85);
        CHECKS.due("call 512", x.rests(0), 1 << 15);
    }

    private static Map<String, ToLongBiFunction<Gridprobe, Integer>> callsWithACell() {
        Map<String, ToLongBiFunction<Gridprobe, Integer>> calls = new LinkedHashMap<>();
        calls.put("cell", (x, cell) -> x.cell(cell));
        calls.put("enter", (x, cell) -> x.enter(cell));
        calls.put("input", (x, cell) -> x.input(cell, 0, 9));
        calls.put("set", (x, cell) -> x.set(cell, 0));
        calls.put("tell", (x, cell) -> x.tell(cell, Gridprobe.MOST, 0));
        calls.put("tell SAME as", (x, cell) -> x.tell(7, Gridprobe.SAME, cell));
        calls.put("tell RISING by", (x, cell) -> x.tell(7, Gridprobe.RISING, cell));
        calls.put("drop", (x, cell) -> x.drop(cell));
        calls.put("own", (x, cell) -> x.own(cell, 0));
        calls.put("attempt", (x, cell) -> x.attempt(cell, 0, 1));
        calls.put("waive", (x, cell) -> x.waive(cell, 0, 0));
        calls.put("reads", (x, cell) -> x.reads(cell));
        calls.put("rests", (x, cell) -> x.rests(cell));
        calls.put("show", (x, cell) -> x.show(cell));
        calls.put("verdict", (x, cell) -> x.verdict(cell));
        calls.put("failing", (x, cell) -> x.failing(cell));
        calls.put("example", (x, cell) -> x.example(cell, 0));
        calls.put("example with", (x, cell) -> x.example(9, cell));
        calls.put("smaller", (x, cell) -> x.smaller(cell));
        calls.put("isLocked", (x, cell) -> x.isLocked(cell) ? 1 : 0);
        calls.put("isLockedByWays", (x, cell) -> x.isLockedByWays(cell) ? 1 : 0);
        calls.put("isMarked", (x, cell) -> x.isMarked(cell) ? 1 : 0);
        return calls;
    }

    /** Inputs alone, 9 FAILED with an example, a formula in the draft. */
    private static Gridprobe readyForAll() {
        Gridprobe x = new Gridprobe();
        x.tell(9, Gridprobe.LEAST, 1);
        x.attempt(9, 0, 1);
        x.number(1);
        return x;
    }

    /** "There are the cells 0 to 15." */
    private static void cellsFrom0To15() {
        callsWithACell().forEach((name, call) -> {
            for (int cell : new int[] {-1, 16, LEAST_INT, GREATEST_INT}) {
                CHECKS.dueThrows(name + " " + cell, IndexOutOfBoundsException.class,
                        BoundaryTermsTest::readyForAll, x -> call.applyAsLong(x, cell));
            }
            for (int cell : new int[] {0, 15}) {
                String got = Checks.outcome(readyForAll(), x -> call.applyAsLong(x, cell));
                CHECKS.due(name + " " + cell + " answers " + got, got.equals(OUTSIDE), false);
            }
        });
    }

    /** "At first all are inputs with the range 0 to 0 and the value 0." "All cells are UNTRIED at first." */
    private static void inputsAtFirst() {
        for (int cell : new int[] {0, 1, 14, 15}) {
            Gridprobe x = new Gridprobe();
            CHECKS.dueOutcome("set below the range of " + cell, x, y -> y.set(cell, -1), WRONG);
            CHECKS.dueOutcome("set above the range of " + cell, x, y -> y.set(cell, 1), WRONG);
            CHECKS.due("set within the range of " + cell, x.set(cell, 0), 0);
            CHECKS.due("UNTRIED is " + cell, x.verdict(cell), Gridprobe.UNTRIED);
            x.tell(cell, Gridprobe.LEAST, 0);
            x.tell(cell, Gridprobe.MOST, 0);
            CHECKS.due("0 in all rows of " + cell, x.attempt(cell, 7874, 20), Gridprobe.NONE);
        }
    }

    private static void dueFormula(String parts, String want) {
        Gridprobe x = new Gridprobe();
        Checks.enter(x, 0, parts);
        CHECKS.dueOutcome(parts, x, y -> y.show(0), want);
    }

    /** "Values are ints ..., so that what is too great or too small for an int goes round." */
    private static void valuesGoRound() {
        dueFormula("n2147483647 n1 o0", "-2147483648");
        dueFormula("n2147483647 n2147483647 o0", "-2");
        dueFormula("n-2147483648 n-2147483648 o0", "0");
        dueFormula("n-2147483648 n1 o1", "2147483647");
        dueFormula("n0 n-2147483648 o1", "-2147483648");
        dueFormula("n-2 n2147483647 o1", "2147483647");
        dueFormula("n2147483647 n2 o2", "-2");
        dueFormula("n-2147483648 n-1 o2", "-2147483648");
        dueFormula("n2147483647 n2147483647 o2", "1");
        Gridprobe x = new Gridprobe();
        x.input(0, 0, 1);
        Checks.enter(x, 1, "c0 n2147483647 o0");
        Checks.enter(x, 2, "c1 n1 o1");
        x.set(0, 1);
        CHECKS.due("round in a cell", x.show(1), LEAST_INT);
        CHECKS.due("and back in its reader", x.show(2), GREATEST_INT);
        x.tell(1, Gridprobe.LEAST, 0);
        CHECKS.due("a property sees what went round", x.attempt(1, 0, 2), 1);
        x.tell(2, Gridprobe.LEAST, GREATEST_INT - 1);
        CHECKS.due("and what came back", x.attempt(2, 0, 2), Gridprobe.NONE);
    }

    /** "4 the least one, 5 the greatest one, 6 less (1, if the first one is less ..., otherwise 0), 7 alike (1 or 0)". */
    private static void operationsAtTheirEdges() {
        dueFormula("n-2147483648 n2147483647 o4", "-2147483648");
        dueFormula("n2147483647 n-2147483648 o4", "-2147483648");
        dueFormula("n7 n7 o4", "7");
        dueFormula("n-2147483648 n2147483647 o5", "2147483647");
        dueFormula("n2147483647 n-2147483648 o5", "2147483647");
        dueFormula("n7 n7 o5", "7");
        dueFormula("n7 n7 o6", "0");
        dueFormula("n7 n8 o6", "1");
        dueFormula("n8 n7 o6", "0");
        dueFormula("n-2147483648 n2147483647 o6", "1");
        dueFormula("n2147483647 n-2147483648 o6", "0");
        dueFormula("n-2147483648 n-2147483648 o7", "1");
        dueFormula("n-2147483648 n2147483647 o7", "0");
        dueFormula("n0 n-2147483648 o7", "0");
        dueFormula("n-2147483648 n2147483647 o8", "0");
        dueFormula("n-1 n-2147483648 o8", "-2147483648");
        dueFormula("n-2147483648 n2147483647 o9", "-1");
        dueFormula("n0 n0 o9", "0");
    }

    /** "The bits of the first one moved up by the remainder of the second one by 32, 0 or more, 11 ... likewise". */
    private static void movedByTheRemainderBy32() {
        dueFormula("n5 n0 o10", "5");
        dueFormula("n5 n31 o10", "-2147483648");
        dueFormula("n5 n32 o10", "5");
        dueFormula("n5 n33 o10", "10");
        dueFormula("n5 n-1 o10", "-2147483648");
        dueFormula("n5 n-31 o10", "10");
        dueFormula("n5 n-32 o10", "5");
        dueFormula("n5 n-33 o10", "-2147483648");
        dueFormula("n5 n2147483647 o10", "-2147483648");
        dueFormula("n5 n-2147483648 o10", "5");
        dueFormula("n-2147483648 n1 o10", "0");
        dueFormula("n-9 n0 o11", "-9");
        dueFormula("n-9 n1 o11", "-5");
        dueFormula("n-9 n31 o11", "-1");
        dueFormula("n9 n31 o11", "0");
        dueFormula("n-9 n32 o11", "-9");
        dueFormula("n-9 n33 o11", "-5");
        dueFormula("n-9 n-1 o11", "-1");
        dueFormula("n-9 n-31 o11", "-5");
        dueFormula("n-9 n-32 o11", "-9");
        dueFormula("n-2147483648 n2147483647 o11", "-1");
        dueFormula("n-9 n-2147483648 o11", "-9");
    }

    /** "It has at most 12 parts, each number, cell and operation being one." */
    private static void atMost12Parts() {
        Gridprobe x = new Gridprobe();
        CHECKS.due("a number alone", Checks.enter(x, 1, "n-2147483648"), 0);
        CHECKS.due("a cell alone", Checks.enter(x, 2, "c1"), 0);
        CHECKS.due("shown", x.show(2), LEAST_INT);
        Checks.enter(x, 3, "c4 c5 c6 c7 c8 c9 o0 o0 o0 o0 o0");
        CHECKS.due("six cells", x.reads(3), 1008);
        Checks.enter(x, 3, "n1 n2 o0 n3 o2 n4 o1 n5 o2 n6 o0");
        CHECKS.due("((1 + 2) * 3 - 4) * 5 + 6", x.show(3), 31);
        Supplier<Gridprobe> full = () -> {
            Gridprobe y = new Gridprobe();
            Checks.draft(y, "n1 c2 o0 n3 n4 n5 n6 o0 o0 o0 o0 c7");
            return y;
        };
        CHECKS.due("12 parts", full.get().drafted(), 12);
        CHECKS.dueThrows("a number more", IllegalStateException.class, full, y -> y.number(0));
        CHECKS.dueThrows("a cell more", IllegalStateException.class, full, y -> y.cell(0));
        CHECKS.dueThrows("an operation more", IllegalStateException.class, full, y -> y.apply(0));
    }

    /** "3 divided, toward 0"; "To divide by 0 is a fault; what has a fault in it is a fault itself"; "-2147483648 ...". */
    private static void dividingBy0() {
        dueFormula("n1 n0 o3", FAULT);
        dueFormula("n0 n0 o3", FAULT);
        dueFormula("n-2147483648 n0 o3", FAULT);
        dueFormula("n1 n0 o3 n0 o2", FAULT);
        dueFormula("n0 n1 n0 o3 o2", FAULT);
        dueFormula("n5 n1 n0 o3 o3", FAULT);
        dueFormula("n1 n0 o3 n1 n0 o3 o7", FAULT);
        dueFormula("n0 n1 o3", "0");
        dueFormula("n1 n2 o3", "0");
        dueFormula("n-1 n2 o3", "0");
        dueFormula("n-3 n2 o3", "-1");
        dueFormula("n-2147483648 n-1 o3", "-2147483648");
        dueFormula("n2147483647 n-1 o3", "-2147483647");
        dueFormula("n-2147483648 n1 o3", "-2147483648");
        dueFormula("n2147483647 n-2147483648 o3", "0");
        dueFormula("n-2147483648 n-2147483648 o3", "1");
    }

    /** "No cell rests on itself." */
    private static void noCellRestsOnItself() {
        Supplier<Gridprobe> chain = () -> {
            Gridprobe x = new Gridprobe();
            for (int cell = 15; cell > 0; cell--) {
                Checks.enter(x, cell, "c" + (cell - 1));
            }
            return x;
        };
        for (int cell = 0; cell < 16; cell++) {
            int entered = cell;
            CHECKS.dueThrows(cell + " on itself by 15", IllegalStateException.class, () -> {
                Gridprobe x = chain.get();
                x.cell(15);
                return x;
            }, x -> x.enter(entered));
            CHECKS.dueThrows(cell + " on itself", IllegalStateException.class, () -> {
                Gridprobe x = chain.get();
                x.cell(entered);
                return x;
            }, x -> x.enter(entered));
        }
        Gridprobe x = chain.get();
        CHECKS.due("on all the others", x.rests(15), 32767);
        CHECKS.due("the ring is cut", x.input(1, 0, 0), 0);
        CHECKS.due("and closed elsewhere", Checks.enter(x, 0, "c15"), 0);
        CHECKS.due("rests from 15", x.rests(0), 65534);
    }

    /** "A cell has at most 4, in the order told, each with a number n." */
    private static void atMostFourProperties() {
        Gridprobe x = new Gridprobe();
        x.input(0, 0, 20);
        for (int told = 1; told <= 4; told++) {
            CHECKS.due("property " + told, x.tell(0, Gridprobe.MOST, 24 - told), told);
        }
        CHECKS.due("all hold", x.attempt(0, 0, 20), Gridprobe.NONE);
        CHECKS.dueOutcome("a fifth one", x, y -> y.tell(0, Gridprobe.LEAST, 21), STOPPED);
        CHECKS.due("PASSED still", x.verdict(0), Gridprobe.PASSED);
        CHECKS.due("the fifth one counts nothing", x.attempt(0, 0, 20), Gridprobe.NONE);
        for (int broken = 0; broken < 4; broken++) {
            Gridprobe y = new Gridprobe();
            for (int told = 0; told < 4; told++) {
                y.tell(3, Gridprobe.LEAST, told < broken ? 0 : 1);
            }
            y.attempt(3, 0, 1);
            CHECKS.due("the first broken one", y.failing(3), broken);
        }
    }

    /** "LEAST, the value is n or more; MOST, it is n or less". */
    private static void leastAndMostAtTheirNumber() {
        int[] values = {LEAST_INT, LEAST_INT + 1, -1, 0, 1, GREATEST_INT - 1, GREATEST_INT};
        for (int value : values) {
            for (int n : values) {
                dueTrial("LEAST " + n + " of " + value, value, Gridprobe.LEAST, n, value >= n);
                dueTrial("MOST " + n + " of " + value, value, Gridprobe.MOST, n, value <= n);
            }
        }
    }

    private static void dueTrial(String what, int value, int kind, int n, boolean holds) {
        Gridprobe x = new Gridprobe();
        Checks.enter(x, 4, "n" + value);
        x.tell(4, kind, n);
        CHECKS.due(what, x.attempt(4, 0, 20), holds ? Gridprobe.NONE : 0);
    }

    /** "SAME, it is the value of the cell n". */
    private static void sameAsACell() {
        int[] values = {LEAST_INT, -1, 0, GREATEST_INT};
        for (int one : values) {
            for (int other : values) {
                Gridprobe x = new Gridprobe();
                Checks.enter(x, 0, "n" + one);
                Checks.enter(x, 15, "n" + other);
                x.tell(0, Gridprobe.SAME, 15);
                x.tell(15, Gridprobe.SAME, 0);
                int want = one == other ? Gridprobe.NONE : 0;
                CHECKS.due(one + " as " + other, x.attempt(0, 0, 1), want);
                CHECKS.due(other + " as " + one, x.attempt(15, 0, 1), want);
            }
        }
        Gridprobe x = new Gridprobe();
        x.input(3, -4, 4);
        x.tell(3, Gridprobe.SAME, 3);
        CHECKS.due("as itself", x.attempt(3, 0, 20), Gridprobe.NONE);
        x.tell(3, Gridprobe.SAME, 2);
        CHECKS.due("as an input of another range", x.attempt(3, 0, 20), 0);
    }

    /** "It holds as well, if n is no input, or has its highest value, and the value is no fault." */
    private static void risingAtTheHighestValue() {
        CHECKS.due("the lowest is the highest", falling(5, 5).attempt(1, 0, 20), Gridprobe.NONE);
        CHECKS.due("the highest value of all", falling(1000000, 1000000).attempt(1, 0, 20), Gridprobe.NONE);
        CHECKS.due("one below it", falling(999999, 1000000).attempt(1, 0, 20), 0);
        CHECKS.due("one below it", falling(-1000000, -999999).attempt(1, 0, 20), 0);
        Gridprobe turned = falling(0, 9);
        Checks.enter(turned, 0, "n3");
        CHECKS.due("a formula is no input", turned.attempt(1, 0, 20), Gridprobe.NONE);
        turned.input(0, 3, 4);
        CHECKS.due("an input again", turned.attempt(1, 0, 20), 0);
        Gridprobe itself = new Gridprobe();
        Checks.enter(itself, 2, "n3");
        itself.tell(2, Gridprobe.RISING, 2);
        CHECKS.due("a formula by itself", itself.attempt(2, 0, 20), Gridprobe.NONE);
        Gridprobe atTheTop = new Gridprobe();
        atTheTop.input(0, 0, 1);
        Checks.enter(atTheTop, 1, "c0 n1 o7 n4 o2 c0 n2 o7 n9 o2 o1");
        atTheTop.tell(1, Gridprobe.RISING, 0);
        CHECKS.due("2 is not looked at", atTheTop.attempt(1, 0, 20), Gridprobe.NONE);
        atTheTop.input(0, 0, 2);
        CHECKS.due("2 is looked at, but from 1 on alone", atTheTop.attempt(1, 0, 2), Gridprobe.NONE);
        atTheTop.input(0, 1, 2);
        CHECKS.due("now from row 0", atTheTop.attempt(1, 0, 2), 0);
    }

    /** 1 is 0 minus 0, and has to rise with 0. */
    private static Gridprobe falling(int low, int high) {
        Gridprobe x = new Gridprobe();
        x.input(0, low, high);
        Checks.enter(x, 1, "n0 c0 o1");
        x.tell(1, Gridprobe.RISING, 0);
        return x;
    }

    /** "RISING, the value does not become less, when the input n is 1 more". */
    private static void risingByLittle() {
        Gridprobe x = new Gridprobe();
        x.input(0, 6, 8);
        x.tell(2, Gridprobe.RISING, 0);
        for (String formula : new String[] {"c0", "n4", "c1", "c0 n2 o3", "n2147483640 c0 o0"}) {
            Checks.enter(x, 2, formula);
            CHECKS.due("not less: " + formula, x.attempt(2, 0, 1), Gridprobe.NONE);
        }
        for (String formula : new String[] {"n0 c0 o1", "n13 c0 o3", "c0 n7 o6", "n2147483641 c0 o0"}) {
            Checks.enter(x, 2, formula);
            CHECKS.due("less: " + formula, x.attempt(2, 0, 1), 0);
        }
    }

    /** "A fault of a value that is looked at makes it fail, that of the cell in any case." */
    private static void faultsLookedAt() {
        int[][] properties = {{Gridprobe.LEAST, LEAST_INT}, {Gridprobe.MOST, GREATEST_INT}, {Gridprobe.SAME, 1},
            {Gridprobe.SAME, 0}, {Gridprobe.RISING, 0}, {Gridprobe.RISING, 1}, {Gridprobe.RISING, 15}};
        for (int[] property : properties) {
            Gridprobe x = new Gridprobe();
            Checks.enter(x, 1, "n0 c0 o3");
            x.tell(1, property[0], property[1]);
            CHECKS.due("the cell's fault by " + property[0] + ", " + property[1], x.attempt(1, 0, 1), 0);
        }
        Gridprobe same = new Gridprobe();
        Checks.enter(same, 1, "n0 c0 o3");
        same.tell(2, Gridprobe.SAME, 1);
        CHECKS.due("the other cell's fault", same.attempt(2, 0, 1), 0);
        same.input(0, 1, 1);
        CHECKS.due("both are 0", same.attempt(2, 0, 1), Gridprobe.NONE);
        Gridprobe rising = new Gridprobe();
        rising.input(0, -1, 0);
        Checks.enter(rising, 1, "n5 c0 o3");
        rising.tell(1, Gridprobe.RISING, 0);
        CHECKS.due("the fault 1 more", rising.attempt(1, 0, 1), 0);
        rising.input(0, -1, -1);
        CHECKS.due("is not looked at", rising.attempt(1, 0, 1), Gridprobe.NONE);
    }
}
