/** Promises 12 and 20 to 23: attempt, verdict, failing, example, smaller, and what properties and trials are. */
public final class TrialTest {
    private static final Checks CHECKS = new Checks();
    private static final int[] NO_CELLS = {-1, 16, Integer.MIN_VALUE, Integer.MAX_VALUE};
    private static final int LEAST_INT = Integer.MIN_VALUE, GREATEST_INT = Integer.MAX_VALUE;

    public static void main(String[] args) {
        leastAndMost();
        same();
        rising();
        faultsFail();
        rowsAsDrawn();
        rowsGoOn();
        orderOfRowsAndProperties();
        madeSmaller();
        madeSmallerByTheSameProperty();
        madeSmallerAtMost60Times();
        verdictsAndExamples();
        examplesStay();
        attemptRefuses();
        askingRefuses();
        CHECKS.close();
    }

    private static void leastAndMost() {
        trialOfInput("LEAST holds", -3, 5, Gridprobe.LEAST, -3, Gridprobe.NONE);
        trialOfInput("LEAST breaks", -3, 5, Gridprobe.LEAST, -2, 0);
        trialOfInput("LEAST of the least int", -3, 5, Gridprobe.LEAST, LEAST_INT, Gridprobe.NONE);
        trialOfInput("LEAST of the greatest int", -3, 5, Gridprobe.LEAST, GREATEST_INT, 0);
        trialOfInput("MOST holds", -3, 5, Gridprobe.MOST, 5, Gridprobe.NONE);
        trialOfInput("MOST breaks", -3, 5, Gridprobe.MOST, 4, 1);
        trialOfInput("MOST of the greatest int", -3, 5, Gridprobe.MOST, GREATEST_INT, Gridprobe.NONE);
        trialOfInput("MOST of the least int", -3, 5, Gridprobe.MOST, LEAST_INT, 0);
    }

    private static void trialOfInput(String what, int low, int high, int kind, int n, int want) {
        Gridprobe x = new Gridprobe();
        x.input(6, low, high);
        x.tell(6, kind, n);
        CHECKS.due(what, x.attempt(6, 0, 2), want);
    }

    private static void same() {
        Gridprobe x = new Gridprobe();
        x.input(0, 0, 9);
        Checks.enter(x, 1, "c0 c0 o0");
        Checks.enter(x, 2, "c0 n2 o2");
        x.tell(1, Gridprobe.SAME, 2);
        x.tell(1, Gridprobe.SAME, 1);
        CHECKS.due("twice is the same", x.attempt(1, 0, 20), Gridprobe.NONE);
        x.tell(1, Gridprobe.SAME, 0);
        CHECKS.due("0 alone is twice itself", x.attempt(1, 0, 20), 1);
        CHECKS.due("by the third one", x.failing(1), 2);
        CHECKS.due("made smaller to 1", x.example(1, 0), 1);
    }

    private static void rising() {
        Gridprobe x = new Gridprobe();
        x.input(0, 0, 9);
        x.input(1, 0, 9);
        Checks.enter(x, 2, "c0 c1 o1");
        x.tell(2, Gridprobe.RISING, 0);
        CHECKS.due("rises with 0", x.attempt(2, 0, 20), Gridprobe.NONE);
        x.tell(2, Gridprobe.RISING, 1);
        CHECKS.due("falls with 1", x.attempt(2, 0, 20), 0);
        CHECKS.due("by the second one", x.failing(2), 1);
        x.drop(2);
        x.tell(2, Gridprobe.RISING, 3);
        CHECKS.due("staying is rising", x.attempt(2, 0, 20), Gridprobe.NONE);
        x.input(3, 0, 5);
        CHECKS.due("staying is rising, of an input that can grow", x.attempt(2, 0, 20), Gridprobe.NONE);
        Checks.enter(x, 4, "n0 c1 o1");
        Checks.enter(x, 5, "c4");
        x.tell(5, Gridprobe.RISING, 4);
        x.tell(5, Gridprobe.RISING, 5);
        CHECKS.due("with what is no input it holds", x.attempt(5, 0, 20), Gridprobe.NONE);
        x.input(1, 9, 9);
        x.tell(5, Gridprobe.RISING, 1);
        CHECKS.due("at the highest value it holds", x.attempt(5, 0, 20), Gridprobe.NONE);
        x.input(1, 8, 9);
        CHECKS.due("one lower it breaks", x.attempt(5, 0, 1), 0);
        x.tell(1, Gridprobe.RISING, 1);
        CHECKS.due("an input rises with itself", x.attempt(1, 0, 20), Gridprobe.NONE);
        Gridprobe round = new Gridprobe();
        round.input(0, 0, 9);
        Checks.enter(round, 1, "c0 n2147483640 o0");
        round.tell(1, Gridprobe.RISING, 0);
        CHECKS.due("going round falls from 7 to 8 alone", round.attempt(1, 0, 2), Gridprobe.NONE);
        round.input(0, 7, 9);
        CHECKS.due("going round is no rising", round.attempt(1, 0, 2), 0);
    }

    private static void faultsFail() {
        int[][] properties = {{Gridprobe.LEAST, LEAST_INT}, {Gridprobe.MOST, GREATEST_INT}, {Gridprobe.SAME, 1},
            {Gridprobe.RISING, 0}, {Gridprobe.RISING, 1}};
        for (int[] property : properties) {
            Gridprobe x = new Gridprobe();
            Checks.enter(x, 1, "n1 c0 o3");
            x.tell(1, property[0], property[1]);
            CHECKS.due("a fault fails by kind " + property[0], x.attempt(1, 0, 1), 0);
        }
        Gridprobe x = new Gridprobe();
        x.input(0, -1, 0);
        Checks.enter(x, 1, "n1 c0 o3");
        Checks.enter(x, 2, "n0 n0 o3");
        x.tell(1, Gridprobe.RISING, 0);
        CHECKS.due("a fault 1 more fails", x.attempt(1, 0, 1), 0);
        x.tell(0, Gridprobe.SAME, 2);
        CHECKS.due("a fault of the other cell fails", x.attempt(0, 0, 1), 0);
        x.tell(2, Gridprobe.SAME, 2);
        CHECKS.due("a fault is not the same as itself", x.attempt(2, 0, 1), 0);
        x.drop(2);
        CHECKS.due("no property, no failing", x.attempt(2, 0, 20), Gridprobe.NONE);
        CHECKS.due("but PASSED", x.verdict(2), Gridprobe.PASSED);
    }

    /** A cell that is 1 just where cell 0 has the value that is due, so that smaller rows don't fail. */
    private static Gridprobe lookingFor(int low, int high, int value) {
        Gridprobe x = new Gridprobe();
        x.input(0, low, high);
        x.number(value);
        Checks.enter(x, 1, "c0 o7");
        x.tell(1, Gridprobe.MOST, 0);
        return x;
    }

    private static void rowsAsDrawn() {
        CHECKS.due("row 0 is the lowest", lookingFor(-20, 30, -20).attempt(1, 0, 1), 0);
        CHECKS.due("row 1 is the highest", lookingFor(-20, 30, 30).attempt(1, 0, 2), 1);
        CHECKS.due("one row is row 0 alone", lookingFor(-20, 30, 30).attempt(1, 0, 1), Gridprobe.NONE);
        CHECKS.due("two rows end at row 1", lookingFor(0, 9, 3).attempt(1, 0, 2), Gridprobe.NONE);
        CHECKS.due("1663 by 10 leaves 3", lookingFor(0, 9, 3).attempt(1, 0, 3), 2);
        CHECKS.due("from the lowest value on", lookingFor(-20, -11, -17).attempt(1, 0, 3), 2);
        CHECKS.due("a wide range", lookingFor(-1000000, 1000000, -998337).attempt(1, 0, 3), 2);
        CHECKS.due("a range of 1663 values", lookingFor(1, 1663, 1).attempt(1, 0, 1), 0);
        CHECKS.due("421 and 1663 are 2084", lookingFor(0, 9999, 2084).attempt(1, 1, 3), 2);
        CHECKS.due("goes round by 7875", lookingFor(0, 9999, (421 * 7874 + 1663) % 7875).attempt(1, 7874, 3), 2);
    }

    /** The number goes on over all inputs but not over formulas, and from row to row. */
    private static void rowsGoOn() {
        for (int watcher : new int[] {0, 7, 15}) {
            for (int cell = 0; cell < 16; cell++) {
                if (cell != watcher) {
                    int value = drawnInRow3(77, cell, watcher);
                    Gridprobe x = new Gridprobe();
                    x.input(cell, -2500, 2500);
                    Checks.enter(x, watcher, "c" + cell + " n" + value + " o7");
                    x.tell(watcher, Gridprobe.MOST, 0);
                    String what = watcher + " finds the value of " + cell;
                    CHECKS.due(what + " not before row 3", x.attempt(watcher, 77, 3), Gridprobe.NONE);
                    CHECKS.due(what + " in row 3", x.attempt(watcher, 77, 20), 3);
                    CHECKS.due(what + " as the example", x.example(watcher, cell), value);
                }
            }
        }
    }

    private static int drawnInRow3(int seed, int cell, int formula) {
        int number = seed;
        int value = 0;
        for (int row = 2; row <= 3; row++) {
            for (int input = 0; input < 16; input++) {
                number = input == formula ? number : (421 * number + 1663) % 7875;
                value = input == cell ? -2500 + number % 5001 : value;
            }
        }
        return value;
    }

    private static void orderOfRowsAndProperties() {
        Gridprobe x = new Gridprobe();
        x.input(0, 0, 9);
        x.tell(0, Gridprobe.MOST, 8);
        x.tell(0, Gridprobe.LEAST, 1);
        x.tell(0, Gridprobe.LEAST, 2);
        CHECKS.due("row 0 goes first", x.attempt(0, 0, 20), 0);
        CHECKS.due("by the first that breaks there", x.failing(0), 1);
        x.drop(0);
        CHECKS.due("failing is as it was told", x.failing(0), 1);
        x.tell(0, Gridprobe.MOST, 8);
        CHECKS.due("another row", x.attempt(0, 0, 20), 1);
        CHECKS.due("another property", x.failing(0), 0);
        CHECKS.due("another example", x.example(0, 0), 9);
    }

    private static void madeSmaller() {
        Gridprobe x = new Gridprobe();
        x.input(0, 0, 100);
        x.input(1, -5, 5);
        Checks.enter(x, 2, "c0 c1 o2");
        x.tell(2, Gridprobe.MOST, 40);
        CHECKS.due("row 1 fails", x.attempt(2, 0, 2), 1);
        CHECKS.due("100, 50, 25, 13, 10, 9", x.smaller(2), 5);
        CHECKS.due("of 0", x.example(2, 0), 9);
        CHECKS.due("of 1", x.example(2, 1), 5);
        Gridprobe far = new Gridprobe();
        far.input(3, -7, 100);
        far.input(5, 2, 3);
        Checks.enter(far, 4, "n0 n0 o3");
        far.tell(4, Gridprobe.LEAST, 0);
        CHECKS.due("row 0 can't be smaller", far.attempt(4, 0, 20), 0);
        CHECKS.due("0 times", far.smaller(4), 0);
        Checks.enter(far, 4, "n1 c3 n100 o1 o3 n1 c5 n3 o1 o3 o0");
        far.tell(4, Gridprobe.LEAST, LEAST_INT);
        far.drop(4);
        far.tell(4, Gridprobe.MOST, 5);
        CHECKS.due("both at the highest are faults", far.attempt(4, 0, 20), 1);
        CHECKS.due("the first goes down at once", far.example(4, 3), -7);
        CHECKS.due("the second one keeps the fault", far.example(4, 5), 3);
        CHECKS.due("once", far.smaller(4), 1);
        Gridprobe sum = new Gridprobe();
        sum.input(0, 0, 10);
        sum.input(1, 0, 10);
        Checks.enter(sum, 2, "c0 c1 o0");
        sum.tell(2, Gridprobe.MOST, 11);
        CHECKS.due("20 is above 11", sum.attempt(2, 0, 2), 1);
        CHECKS.due("10, 5, 3, 2, all in the first one", sum.smaller(2), 3);
        CHECKS.due("first one", sum.example(2, 0), 2);
        CHECKS.due("second one", sum.example(2, 1), 10);
    }

    private static void madeSmallerByTheSameProperty() {
        Gridprobe x = new Gridprobe();
        x.input(0, 0, 100);
        x.tell(0, Gridprobe.MOST, 90);
        CHECKS.due("by MOST", x.attempt(0, 0, 2), 1);
        CHECKS.due("91 still breaks it", x.example(0, 0), 91);
        x.drop(0);
        x.tell(0, Gridprobe.LEAST, 0);
        x.tell(0, Gridprobe.MOST, 90);
        x.tell(0, Gridprobe.MOST, 10);
        x.attempt(0, 0, 2);
        CHECKS.due("not by the one behind it", x.example(0, 0), 91);
        CHECKS.due("but by its own", x.failing(0), 1);
        Gridprobe other = new Gridprobe();
        other.input(0, 0, 100);
        Checks.enter(other, 1, "c0 n100 o7 c0 n50 o7 o1");
        other.tell(1, Gridprobe.LEAST, 0);
        other.tell(1, Gridprobe.MOST, 0);
        CHECKS.due("100 breaks MOST", other.attempt(1, 0, 2), 1);
        CHECKS.due("50 breaks LEAST alone", other.smaller(1), 0);
        CHECKS.due("so 100 is the example", other.example(1, 0), 100);
    }

    private static void madeSmallerAtMost60Times() {
        Gridprobe x = new Gridprobe();
        x.input(0, 0, 100);
        x.input(1, 10, 100);
        Checks.enter(x, 2, "c0 c1 o1 n1 o11 n0 o7");
        x.tell(2, Gridprobe.MOST, 0);
        CHECKS.due("the highest are alike", x.attempt(2, 0, 2), 1);
        CHECKS.due("60 times and no more", x.smaller(2), 60);
        CHECKS.due("30 of the first one", x.example(2, 0), 70);
        CHECKS.due("30 of the second one", x.example(2, 1), 70);
        x.input(1, 70, 100);
        x.attempt(2, 0, 2);
        CHECKS.due("60 times just so", x.smaller(2), 60);
        x.input(1, 71, 100);
        x.attempt(2, 0, 2);
        CHECKS.due("58 times", x.smaller(2), 58);
        CHECKS.due("down to 71", x.example(2, 0), 71);
    }

    private static void verdictsAndExamples() {
        Gridprobe x = new Gridprobe();
        x.input(15, 3, 8);
        CHECKS.due("UNTRIED", x.verdict(15), Gridprobe.UNTRIED);
        x.tell(15, Gridprobe.MOST, 7);
        CHECKS.due("passed by row 0", x.attempt(15, 7874, 1), Gridprobe.NONE);
        CHECKS.due("PASSED", x.verdict(15), Gridprobe.PASSED);
        CHECKS.due("failing of PASSED", x.failing(15), Gridprobe.NONE);
        CHECKS.due("smaller of PASSED", x.smaller(15), Gridprobe.NONE);
        CHECKS.due("failed by row 1", x.attempt(15, 0, 20), 1);
        CHECKS.due("FAILED", x.verdict(15), Gridprobe.FAILED);
        CHECKS.due("example", x.example(15, 15), 8);
        CHECKS.due("example of another input", x.example(15, 0), 0);
        CHECKS.due("others stay", x.verdict(14), Gridprobe.UNTRIED);
        CHECKS.due("passed again", x.attempt(15, 0, 1), Gridprobe.NONE);
        CHECKS.due("PASSED again", x.verdict(15), Gridprobe.PASSED);
        CHECKS.due("no failing any more", x.failing(15), Gridprobe.NONE);
        CHECKS.due("no smaller any more", x.smaller(15), Gridprobe.NONE);
        CHECKS.dueText("no example any more", Checks.outcome(x, y -> y.example(15, 15)), "NoSuchElementException");
    }

    private static void examplesStay() {
        Gridprobe x = sheet();
        x.input(0, 7, 9);
        Checks.enter(x, 3, "c0");
        x.input(1, 4, 4);
        CHECKS.due("FAILED stays", x.verdict(2), Gridprobe.FAILED);
        CHECKS.due("example stays", x.example(2, 0), 3);
        CHECKS.due("3 was an input then", x.example(2, 3), 0);
        CHECKS.dueText("1 was none then", Checks.outcome(x, y -> y.example(2, 1)), "NoSuchElementException");
        x.input(2, 1, 1);
        CHECKS.due("an input stays FAILED", x.verdict(2), Gridprobe.FAILED);
        CHECKS.dueText("2 was none then", Checks.outcome(x, y -> y.example(2, 2)), "NoSuchElementException");
        x.drop(2);
        x.tell(2, Gridprobe.LEAST, 1);
        CHECKS.due("telling changes no FAILED", x.verdict(2), Gridprobe.FAILED);
        CHECKS.due("a trial does", x.attempt(2, 0, 20), Gridprobe.NONE);
        CHECKS.due("PASSED", x.verdict(2), Gridprobe.PASSED);
        Gridprobe turned = new Gridprobe();
        turned.input(0, 0, 9);
        turned.tell(0, Gridprobe.MOST, 8);
        turned.attempt(0, 0, 1);
        turned.attempt(0, 0, 2);
        CHECKS.due("FAILED is PASSED no more", turned.input(0, 0, 9), 0);
    }

    private static void attemptRefuses() {
        for (int cell : NO_CELLS) {
            refuseAttempt(IndexOutOfBoundsException.class, cell, 0, 1);
            refuseAttempt(IndexOutOfBoundsException.class, cell, -1, 0);
        }
        for (int seed : new int[] {-1, 7875, LEAST_INT, GREATEST_INT}) {
            refuseAttempt(IllegalArgumentException.class, 2, seed, 1);
        }
        for (int rows : new int[] {0, 21, -1, LEAST_INT, GREATEST_INT}) {
            refuseAttempt(IllegalArgumentException.class, 2, 0, rows);
        }
        CHECKS.due("the greatest seed and the most rows", sheet().attempt(1, 7874, 20), Gridprobe.NONE);
    }

    private static void refuseAttempt(Class<?> want, int cell, int seed, int rows) {
        String what = "attempt(" + cell + ", " + seed + ", " + rows + ")";
        CHECKS.dueThrows(what, want, TrialTest::sheet, x -> x.attempt(cell, seed, rows));
    }

    private static void askingRefuses() {
        Class<?> noCell = IndexOutOfBoundsException.class;
        Class<?> noElement = java.util.NoSuchElementException.class;
        for (int cell : NO_CELLS) {
            CHECKS.dueThrows("verdict " + cell, noCell, TrialTest::sheet, x -> x.verdict(cell));
            CHECKS.dueThrows("failing " + cell, noCell, TrialTest::sheet, x -> x.failing(cell));
            CHECKS.dueThrows("smaller " + cell, noCell, TrialTest::sheet, x -> x.smaller(cell));
            CHECKS.dueThrows("example of " + cell, noCell, TrialTest::sheet, x -> x.example(cell, 0));
            CHECKS.dueThrows("example by " + cell, noCell, TrialTest::sheet, x -> x.example(2, cell));
            CHECKS.dueThrows("no example by " + cell, noCell, TrialTest::sheet, x -> x.example(1, cell));
        }
        CHECKS.dueThrows("example of PASSED", noElement, TrialTest::sheet, x -> x.example(1, 0));
        CHECKS.dueThrows("example of UNTRIED", noElement, TrialTest::sheet, x -> x.example(9, 0));
        CHECKS.dueThrows("example by a formula", noElement, TrialTest::sheet, x -> x.example(2, 1));
    }

    /** 0 is an input, 1 PASSED, 2 FAILED by its second property. */
    private static Gridprobe sheet() {
        Gridprobe x = new Gridprobe();
        x.input(0, 2, 9);
        Checks.enter(x, 1, "c0 n1 o0");
        Checks.enter(x, 2, "c1 c0 o2");
        x.attempt(1, 0, 20);
        x.tell(2, Gridprobe.LEAST, 0);
        x.tell(2, Gridprobe.MOST, 10);
        x.attempt(2, 0, 20);
        return x;
    }
}
