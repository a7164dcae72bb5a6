/** The sentences of the document on trials that name a boundary: a test for each, the sentence ahead of it. */
public final class BoundaryTrialsTest {
    private static final Checks CHECKS = new Checks();
    private static final int LEAST_INT = Integer.MIN_VALUE, GREATEST_INT = Integer.MAX_VALUE;
    private static final String ABSENT = "NoSuchElementException";

    public static void main(String[] args) {
        firstTwoRows();
        lastRow();
        numberGoesRoundBy7875();
        numberGoesRoundByTheRange();
        rangesOfOneAndTwo();
        widestRange();
        noInputsAtAll();
        orderOfFailing();
        wholeDistanceFirst();
        halvesRoundedDown();
        distancesDownTo1();
        distanceFromTheLowest();
        firstInputFirst();
        againFromTheFirstInput();
        atMost60Times();
        theSamePropertyAlone();
        risingLeavesTheRow();
        inputsAloneAreMadeSmaller();
        passedHasNoExample();
        failedAnew();
        failedIsPassedNoMore();
        untriedIfPassed();
        untriedByAProperty();
        CHECKS.close();
    }

    /** Cell 2 breaks its property just where the cells 0 and 1 have these values. */
    private static Gridprobe lookingFor(int low, int high, int first, int second) {
        Gridprobe x = new Gridprobe();
        x.input(0, low, high);
        x.input(1, low, high);
        Checks.enter(x, 2, "c0 n" + first + " o7 c1 n" + second + " o7 o8");
        x.tell(2, Gridprobe.MOST, 0);
        return x;
    }

    /** "In row 0 all are the lowest ones, in row 1 the highest ones." "rows: 1 to 20" */
    private static void firstTwoRows() {
        CHECKS.due("all lowest", lookingFor(-9, 12, -9, -9).attempt(2, 5, 1), 0);
        CHECKS.due("all highest", lookingFor(-9, 12, 12, 12).attempt(2, 5, 2), 1);
        CHECKS.due("not in one row", lookingFor(-9, 12, 12, 12).attempt(2, 5, 1), Gridprobe.NONE);
        CHECKS.due("no row mixes them", lookingFor(-9, 12, -9, 12).attempt(2, 5, 2), Gridprobe.NONE);
        CHECKS.due("nor so", lookingFor(-9, 12, 12, -9).attempt(2, 5, 2), Gridprobe.NONE);
    }

    private static int numberAfter(int seed, int times) {
        int number = seed;
        for (int i = 0; i < times; i++) {
            number = (421 * number + 1663) % 7875;
        }
        return number;
    }

    /** "The rows are gone through in order"; with 20 rows row 19 is the last one. */
    private static void lastRow() {
        // 15 inputs take a number in each of the rows 2 to 19, and cell 0 is the first of them.
        int number = numberAfter(4000, 17 * 15 + 1);
        Gridprobe x = lookingFor(0, 9999, number, numberAfter(number, 1));
        CHECKS.due("19 rows", x.attempt(2, 4000, 19), Gridprobe.NONE);
        CHECKS.due("20 rows", x.attempt(2, 4000, 20), 19);
        CHECKS.due("its value", x.example(2, 0), number);
    }

    /** "... becomes for each input ... the remainder of 421 times it, and 1663, together, by 7875". "seed: 0 to 7874" */
    private static void numberGoesRoundBy7875() {
        CHECKS.due("from 0", lookingFor(0, 9999, 1663, 911).attempt(2, 0, 3), 2);
        CHECKS.due("2222 leads to 0", lookingFor(0, 9999, 0, 1663).attempt(2, 2222, 3), 2);
        CHECKS.due("7366 leads to 7874", lookingFor(0, 9999, 7874, 1242).attempt(2, 7366, 3), 2);
        CHECKS.due("from 7874", lookingFor(0, 9999, 1242, numberAfter(1242, 1)).attempt(2, 7874, 3), 2);
        Gridprobe x = lookingFor(0, 9999, 1663, 911);
        x.attempt(2, 7874, 20);
        CHECKS.due("a seed counts for its own trial alone", x.attempt(2, 0, 3), 2);
    }

    /** "The input gets its lowest value, and the remainder of this number by how many values its range has." */
    private static void numberGoesRoundByTheRange() {
        CHECKS.due("7874 of 7875 values", lookingFor(0, 7874, 7874, 1242).attempt(2, 7366, 3), 2);
        CHECKS.due("7874 of 7874 values", lookingFor(0, 7873, 0, 1242).attempt(2, 7366, 3), 2);
        CHECKS.due("1663 of 1664 values", lookingFor(-5, 1658, 1658, 906).attempt(2, 0, 3), 2);
        CHECKS.due("1663 of 1663 values", lookingFor(-5, 1657, -5, 906).attempt(2, 0, 3), 2);
    }

    /** The same sentence, where the range has one value or two. */
    private static void rangesOfOneAndTwo() {
        Gridprobe one = new Gridprobe();
        one.input(3, -8, -8);
        one.tell(3, Gridprobe.LEAST, -8);
        one.tell(3, Gridprobe.MOST, -8);
        CHECKS.due("one value in all rows", one.attempt(3, 1234, 20), Gridprobe.NONE);
        // The numbers are 1663, 911 and 7194.
        Gridprobe two = lookingFor(6, 7, 7, 7);
        two.input(4, 6, 7);
        Checks.enter(two, 2, "c0 n7 o7 c1 n7 o7 o8 c4 n6 o7 o8");
        Checks.enter(two, 3, "n0");
        CHECKS.due("odd, odd, even", two.attempt(2, 0, 3), 2);
        CHECKS.due("odd", two.example(2, 0), 7);
        CHECKS.due("even", two.example(2, 4), 6);
    }

    /** "low: -1000000 to 1000000" "high: low to 1000000" */
    private static void widestRange() {
        Gridprobe x = lookingFor(-1000000, 1000000, 1663 - 1000000, 911 - 1000000);
        CHECKS.due("2000001 values", x.attempt(2, 0, 20), 2);
        x.tell(0, Gridprobe.MOST, 999999);
        CHECKS.due("the highest one", x.attempt(0, 0, 20), 1);
        CHECKS.due("no smaller one is so high", x.example(0, 0), 1000000);
        x.drop(0);
        x.tell(0, Gridprobe.MOST, -1000000);
        x.attempt(0, 0, 20);
        CHECKS.due("one above the lowest one", x.example(0, 0), -999999);
        CHECKS.due("21 steps of 0, and one of 1, which counts nothing", x.smaller(0), 22);
    }

    /** "... values of all inputs", where there are none. */
    private static void noInputsAtAll() {
        Gridprobe x = new Gridprobe();
        for (int cell = 0; cell < 16; cell++) {
            Checks.enter(x, cell, "n" + cell);
        }
        x.tell(7, Gridprobe.MOST, 7);
        CHECKS.due("a number holds in all rows", x.attempt(7, 3, 20), Gridprobe.NONE);
        x.tell(7, Gridprobe.MOST, 6);
        CHECKS.due("or fails in row 0", x.attempt(7, 3, 20), 0);
        CHECKS.due("and is made smaller 0 times", x.smaller(7), 0);
        CHECKS.dueOutcome("an example without inputs", x, y -> y.example(7, 7), ABSENT);
    }

    /** "... and for each of them the properties of the cell in order." */
    private static void orderOfFailing() {
        Gridprobe x = new Gridprobe();
        x.input(0, 0, 9);
        x.tell(0, Gridprobe.MOST, 8);
        x.tell(0, Gridprobe.MOST, 7);
        x.tell(0, Gridprobe.LEAST, 0);
        x.tell(0, Gridprobe.LEAST, 1);
        CHECKS.due("row 0 by the last one", x.attempt(0, 0, 2), 0);
        CHECKS.due("it is 3", x.failing(0), 3);
        x.input(0, 1, 9);
        CHECKS.due("row 1 by two of them", x.attempt(0, 0, 2), 1);
        CHECKS.due("it is 0", x.failing(0), 0);
        x.input(0, 1, 8);
        CHECKS.due("row 1 by the second one", x.attempt(0, 0, 2), 1);
        CHECKS.due("it is 1", x.failing(0), 1);
    }

    /** "A number d is its distance from its lowest value at first". */
    private static void wholeDistanceFirst() {
        Gridprobe x = new Gridprobe();
        for (int cell = 0; cell < 15; cell++) {
            x.input(cell, -1000000, 1000000);
        }
        x.input(14, 0, 1);
        Checks.enter(x, 15, "c14");
        x.tell(15, Gridprobe.MOST, 0);
        CHECKS.due("row 1", x.attempt(15, 0, 20), 1);
        CHECKS.due("14 at once", x.smaller(15), 14);
        for (int cell = 0; cell < 14; cell++) {
            CHECKS.due("lowest of " + cell, x.example(15, cell), -1000000);
        }
        CHECKS.due("the one that counts", x.example(15, 14), 1);
    }

    private static void dueSmaller(String what, String formula, int low, int high, int value, int times) {
        Gridprobe x = new Gridprobe();
        x.input(0, low, high);
        Checks.enter(x, 1, formula);
        x.tell(1, Gridprobe.MOST, 0);
        CHECKS.due(what + ": row", x.attempt(1, 0, 2), 1);
        CHECKS.due(what + ": example", x.example(1, 0), value);
        CHECKS.due(what + ": smaller", x.smaller(1), times);
    }

    /** "... and, rounded down, half of what it was each further time". */
    private static void halvesRoundedDown() {
        dueSmaller("7, 3, 1", "c0 n7 o7 c0 n4 o7 o9", 0, 7, 4, 1);
        dueSmaller("not 4", "c0 n7 o7 c0 n3 o7 o9", 0, 7, 7, 0);
        dueSmaller("not 2", "c0 n7 o7 c0 n5 o7 o9", 0, 7, 7, 0);
        dueSmaller("5, 2, 1", "c0 n5 o7 c0 n3 o7 o9", 0, 5, 3, 1);
        dueSmaller("not 3", "c0 n5 o7 c0 n2 o7 o9", 0, 5, 5, 0);
        dueSmaller("3 goes ahead of 1", "c0 n7 o7 c0 n4 o7 o9 c0 n6 o7 o9", 0, 7, 4, 1);
    }

    /** "... as long as it is above 0". */
    private static void distancesDownTo1() {
        dueSmaller("1 is tried", "c0 n9 o7 c0 n8 o7 o9", 0, 9, 8, 1);
        dueSmaller("3, 2, 1", "c0", 0, 3, 1, 2);
        dueSmaller("the lowest itself is out", "c0", 0, 1, 1, 0);
        Gridprobe x = new Gridprobe();
        x.input(0, 4, 4);
        x.input(1, 4, 5);
        x.tell(1, Gridprobe.MOST, 4);
        CHECKS.due("a distance of 0 is none", x.attempt(1, 0, 2), 1);
        CHECKS.due("so it stays", x.example(1, 0), 4);
        CHECKS.due("0 times", x.smaller(1), 0);
    }

    /** "... its distance from its lowest value", wherever that is. */
    private static void distanceFromTheLowest() {
        dueSmaller("from -7 on", "c0 n0 o7 c0 n-3 o7 o9", -7, 0, -3, 1);
        dueSmaller("from 100 on", "c0 n107 o7 c0 n104 o7 o9", 100, 107, 104, 1);
        dueSmaller("from -1000000 on", "c0 n-999999 o7", -1000000, -999999, -999999, 0);
    }

    /** "The first input and the first d are taken". */
    private static void firstInputFirst() {
        Gridprobe x = new Gridprobe();
        x.input(0, 0, 1);
        x.input(15, 0, 1);
        Checks.enter(x, 7, "c0 c15 o0");
        x.tell(7, Gridprobe.MOST, 0);
        CHECKS.due("1 and 1", x.attempt(7, 0, 2), 1);
        CHECKS.due("0 goes down", x.example(7, 0), 0);
        CHECKS.due("15 stays", x.example(7, 15), 1);
        CHECKS.due("once", x.smaller(7), 1);
    }

    /** "... and so on again from the first input, as long as there are such ones". */
    private static void againFromTheFirstInput() {
        Gridprobe x = new Gridprobe();
        x.input(0, 0, 1);
        x.input(1, 0, 1);
        x.input(2, 0, 1);
        // Broken by 1 1 1, 1 0 1, 0 0 1: 1 has to go down ahead of 0, and 2 never does.
        Checks.enter(x, 3, "c0 c1 o6 n1 o6 c2 o8");
        x.tell(3, Gridprobe.MOST, 0);
        CHECKS.due("row 1", x.attempt(3, 0, 2), 1);
        CHECKS.due("0", x.example(3, 0), 0);
        CHECKS.due("1", x.example(3, 1), 0);
        CHECKS.due("2", x.example(3, 2), 1);
        CHECKS.due("twice", x.smaller(3), 2);
    }

    /** "... but at most 60 times": the two inputs go down by turns, 1 each time, down to the second one's lowest value. */
    private static void atMost60Times() {
        dueTurns("58", 100, 71, 58, 71, 71);
        dueTurns("59, the first one at first", 101, 71, 59, 71, 71);
        dueTurns("60", 100, 70, 60, 70, 70);
        dueTurns("61 would be", 101, 70, 60, 71, 70);
        dueTurns("62 would be", 100, 69, 60, 70, 70);
        dueTurns("198 would be", 100, 1, 60, 70, 70);
    }

    private static void dueTurns(String what, int highest, int lowest, int times, int first, int second) {
        Gridprobe x = new Gridprobe();
        x.input(0, 0, highest);
        x.input(1, lowest, 100);
        // 1 as long as the first one is as much as the second one, or 1 more.
        Checks.enter(x, 2, "c0 c1 o1 n1 o11 n0 o7");
        x.tell(2, Gridprobe.MOST, 0);
        CHECKS.due(what + ": row", x.attempt(2, 0, 2), 1);
        CHECKS.due(what + ": smaller", x.smaller(2), times);
        CHECKS.due(what + ": first", x.example(2, 0), first);
        CHECKS.due(what + ": second", x.example(2, 1), second);
    }

    /** "... for which the same property does not hold either". */
    private static void theSamePropertyAlone() {
        Gridprobe x = new Gridprobe();
        x.input(0, 0, 8);
        Checks.enter(x, 1, "c0 n8 o7 c0 n4 o7 o1");
        x.tell(1, Gridprobe.MOST, 0);
        x.tell(1, Gridprobe.LEAST, 0);
        CHECKS.due("8 by MOST", x.attempt(1, 0, 2), 1);
        CHECKS.due("4 breaks LEAST alone", x.example(1, 0), 8);
        Gridprobe fault = new Gridprobe();
        fault.input(0, 0, 8);
        Checks.enter(fault, 1, "c0 n8 o7 n1 c0 n4 o1 o3 o0");
        fault.tell(1, Gridprobe.MOST, 0);
        CHECKS.due("8 by MOST too", fault.attempt(1, 0, 2), 1);
        CHECKS.due("4 is a fault, and MOST fails so", fault.example(1, 0), 4);
        CHECKS.due("once", fault.smaller(1), 1);
    }

    /** "... when the input n is 1 more": that is looked at, and the row stays as it is. */
    private static void risingLeavesTheRow() {
        Gridprobe x = new Gridprobe();
        x.input(0, 0, 9);
        x.tell(0, Gridprobe.RISING, 0);
        x.tell(0, Gridprobe.MOST, 0);
        CHECKS.due("the property behind it sees 0", x.attempt(0, 0, 1), Gridprobe.NONE);
        x.input(0, 3, 9);
        Checks.enter(x, 2, "n0 c0 o1");
        x.tell(2, Gridprobe.RISING, 0);
        CHECKS.due("-3 and -4", x.attempt(2, 0, 1), 0);
        CHECKS.due("the example is 3", x.example(2, 0), 3);
        CHECKS.due("not made smaller from 4", x.smaller(2), 0);
        x.input(0, 0, 9);
        x.input(1, 0, 99);
        Checks.enter(x, 2, "n0 c0 c1 o2 o1");
        CHECKS.due("row 2 is 3 and 11", x.attempt(2, 0, 3), 2);
        CHECKS.due("0 of the first one", x.example(2, 0), 0);
        CHECKS.due("1 of the second one", x.example(2, 1), 1);
        CHECKS.due("0 at once, and 6, 3, 2, 1", x.smaller(2), 5);
    }

    /** "The inputs are gone through by rising numbers": not a formula that was an input in an earlier trial. */
    private static void inputsAloneAreMadeSmaller() {
        Gridprobe x = new Gridprobe();
        x.input(0, 0, 9);
        x.input(15, -9, 9);
        x.attempt(7, 0, 2);
        Checks.enter(x, 0, "n9");
        Checks.enter(x, 15, "n9");
        x.input(7, 0, 1);
        x.tell(7, Gridprobe.MOST, 0);
        CHECKS.due("row 1", x.attempt(7, 0, 2), 1);
        CHECKS.due("0 times", x.smaller(7), 0);
        CHECKS.dueOutcome("no value of a formula", x, y -> y.example(7, 0), ABSENT);
        CHECKS.dueOutcome("nor of another", x, y -> y.example(7, 15), ABSENT);
    }

    /** "If all properties hold for all rows, the cell is PASSED, and has no example any more." */
    private static void passedHasNoExample() {
        Gridprobe x = new Gridprobe();
        CHECKS.due("no properties", x.attempt(0, 0, 1), Gridprobe.NONE);
        CHECKS.due("PASSED", x.verdict(0), Gridprobe.PASSED);
        x.tell(0, Gridprobe.LEAST, 1);
        x.attempt(0, 0, 1);
        CHECKS.due("an example", x.example(0, 0), 0);
        x.drop(0);
        CHECKS.due("still", x.example(0, 0), 0);
        x.attempt(0, 0, 1);
        CHECKS.dueOutcome("no example any more", x, y -> y.example(0, 0), ABSENT);
        CHECKS.due("smaller", x.smaller(0), Gridprobe.NONE);
        CHECKS.due("failing", x.failing(0), Gridprobe.NONE);
        CHECKS.due("verdict", x.verdict(0), Gridprobe.PASSED);
    }

    /** "Those that were FAILED stay so, until a trial of them is passed"; a failed one gives another example. */
    private static void failedAnew() {
        Gridprobe x = new Gridprobe();
        x.input(0, 2, 40);
        x.tell(0, Gridprobe.MOST, 10);
        CHECKS.due("row 1", x.attempt(0, 0, 2), 1);
        CHECKS.due("40, 21, 12, 11", x.smaller(0), 3);
        x.input(0, 20, 40);
        CHECKS.due("FAILED stays", x.verdict(0), Gridprobe.FAILED);
        CHECKS.due("and its example", x.example(0, 0), 11);
        x.drop(0);
        x.tell(0, Gridprobe.LEAST, 0);
        x.tell(0, Gridprobe.MOST, 10);
        CHECKS.due("row 0", x.attempt(0, 0, 2), 0);
        CHECKS.due("another example", x.example(0, 0), 20);
        CHECKS.due("another property", x.failing(0), 1);
        CHECKS.due("made smaller anew", x.smaller(0), 0);
        x.input(0, 0, 10);
        CHECKS.due("still FAILED", x.verdict(0), Gridprobe.FAILED);
        CHECKS.due("until it is passed", x.attempt(0, 0, 20), Gridprobe.NONE);
        CHECKS.due("now", x.verdict(0), Gridprobe.PASSED);
    }

    /** "... are UNTRIED then, if they were PASSED": one that was PASSED and is FAILED by now is none of them. */
    private static void failedIsPassedNoMore() {
        for (int cell : new int[] {0, 1, 15}) {
            Gridprobe x = new Gridprobe();
            x.input(cell, 0, 1);
            x.tell(cell, Gridprobe.MOST, 0);
            CHECKS.due("row 0 holds for " + cell, x.attempt(cell, 0, 1), Gridprobe.NONE);
            CHECKS.due("row 1 does not", x.attempt(cell, 0, 2), 1);
            CHECKS.due("none is UNTRIED by that", x.input(cell, 0, 1), 0);
            CHECKS.due("FAILED stays", x.verdict(cell), Gridprobe.FAILED);
        }
    }

    /** "If a cell gets a range or a formula, it, and all that rest on it, are UNTRIED then, if they were PASSED". */
    private static void untriedIfPassed() {
        Gridprobe x = new Gridprobe();
        for (int cell = 0; cell < 15; cell++) {
            Checks.enter(x, cell, "c" + (cell + 1));
        }
        CHECKS.due("none was PASSED", x.input(15, 0, 0), 0);
        for (int cell = 0; cell < 16; cell++) {
            x.attempt(cell, 0, 1);
        }
        CHECKS.due("all 16", x.input(15, 0, 0), 16);
        CHECKS.due("none again", Checks.enter(x, 15, "n3"), 0);
        for (int cell = 0; cell < 16; cell++) {
            x.attempt(cell, 0, 1);
        }
        CHECKS.due("those up to 7", Checks.enter(x, 7, "c8"), 8);
        CHECKS.due("7", x.verdict(7), Gridprobe.UNTRIED);
        CHECKS.due("8", x.verdict(8), Gridprobe.PASSED);
        CHECKS.due("0 alone, that none reads", x.input(0, 0, 0) + Checks.enter(x, 0, "c1"), 0);
        x.attempt(0, 0, 1);
        CHECKS.due("0 alone, PASSED", Checks.enter(x, 0, "c1"), 1);
        x.tell(3, Gridprobe.LEAST, GREATEST_INT);
        x.attempt(3, 0, 1);
        x.attempt(2, 0, 1);
        CHECKS.due("8 to 15, and 2 behind a FAILED one", x.input(15, 1, 1), 9);
        CHECKS.due("FAILED stays", x.verdict(3), Gridprobe.FAILED);
    }

    /** "If a cell gets a property, it is UNTRIED, if it was PASSED." */
    private static void untriedByAProperty() {
        Gridprobe x = new Gridprobe();
        Checks.enter(x, 1, "c0");
        for (int told = 0; told < 4; told++) {
            x.attempt(0, 0, 1);
            x.attempt(1, 0, 1);
            x.tell(0, Gridprobe.LEAST, LEAST_INT);
            CHECKS.due("UNTRIED by " + told, x.verdict(0), Gridprobe.UNTRIED);
            CHECKS.due("its reader stays PASSED", x.verdict(1), Gridprobe.PASSED);
        }
        x.attempt(0, 0, 1);
        Checks.outcome(x, y -> y.tell(0, Gridprobe.LEAST, LEAST_INT));
        CHECKS.due("a fifth one is refused", x.verdict(0), Gridprobe.PASSED);
        x.drop(0);
        CHECKS.due("a drop is no property", x.verdict(0), Gridprobe.PASSED);
        x.tell(0, Gridprobe.LEAST, 1);
        x.attempt(0, 0, 1);
        x.tell(0, Gridprobe.LEAST, LEAST_INT);
        CHECKS.due("FAILED stays", x.verdict(0), Gridprobe.FAILED);
    }
}
