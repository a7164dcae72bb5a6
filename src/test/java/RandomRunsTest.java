import java.util.function.IntSupplier;

/** Long runs of drawn calls, each answer compared with that of NaiveGridprobe; the runs are the same each time. */
public final class RandomRunsTest {
    private static final int RUNS = 3000;
    private static final int CALLS = 512;
    private static final int[] EDGES = {Integer.MIN_VALUE, -1000001, -1, 0, 1, 4, 16, 31, 1000000, 1000001,
        Integer.MAX_VALUE};

    private static long state = 20261119L;
    private static int wrong = 0;
    private static int calls;
    private static String recent;
    // How often the runs met what they are for; a run that meets nothing shows nothing.
    private static int mended, longRows, shrunk, thrown, waived, untried, faults;

    private final Gridprobe real = new Gridprobe();
    private final NaiveGridprobe naive = new NaiveGridprobe();
    private final int width;

    private RandomRunsTest(int width) {
        this.width = width;
    }

    public static void main(String[] args) {
        for (int run = 0; run < RUNS && wrong < 10; run++) {
            calls = 0;
            recent = "";
            int wrongAhead = wrong;
            RandomRunsTest test = new RandomRunsTest(3 + below(14));
            while (calls < CALLS - 14 && wrong == wrongAhead) {
                test.step();
            }
            if (wrong > wrongAhead) {
                System.out.println("run " + run + ": " + recent);
            }
        }
        System.out.println(mended + " mended, " + longRows + " long rows unlocked, " + shrunk + " made smaller often, "
            + thrown + " threw, " + waived + " waived, " + untried + " untried, " + faults + " faults");
        boolean met = mended > 1000 && longRows > 300 && shrunk > 1000 && thrown > 1000 && waived > 1000
            && untried > 1000 && faults > 1000;
        System.out.println(wrong == 0 && met ? "all answers are as due" : wrong + " answers are not as due, or too little met");
        if (wrong != 0 || !met) {
            System.exit(1);
        }
    }

    private static int below(int bound) {
        state = state * 6364136223846793005L + 1442695040888963407L;
        return (int) ((state >>> 33) % bound);
    }

    private static int edge() {
        return EDGES[below(EDGES.length)];
    }

    private int cellNumber() {
        return below(60) == 0 ? edge() : below(width);
    }

    /** Mostly one from which no way leads back, so that long ways come about. */
    private int cellFor(int reader) {
        if (reader < 0 || reader >= width || below(8) == 0) {
            return cellNumber();
        }
        boolean downward = width % 2 == 0;
        int others = downward ? reader : width - 1 - reader;
        if (others == 0) {
            return cellNumber();
        }
        return downward ? below(others) : reader + 1 + below(others);
    }

    private static int small() {
        return below(40) == 0 ? edge() : below(17) - 6;
    }

    private int compare(String call, IntSupplier got, IntSupplier want) {
        String one = outcome(got);
        String two = outcome(want);
        calls++;
        recent = recent + call + " ";
        if (!one.equals(two)) {
            wrong++;
            System.out.println(call + " answered " + one + ", due is " + two);
        }
        if (!Character.isDigit(two.charAt(two.length() - 1))) {
            thrown++;
            faults += two.equals("ArithmeticException") ? 1 : 0;
            return Integer.MIN_VALUE;
        }
        return Integer.parseInt(two);
    }

    private static String outcome(IntSupplier call) {
        try {
            return Integer.toString(call.getAsInt());
        } catch (RuntimeException e) {
            return e.getClass().getSimpleName();
        }
    }

    private void step() {
        int drawn = below(100);
        if (drawn < 14) {
            enterFormula();
        } else if (drawn < 20) {
            draftPart();
        } else if (drawn < 27) {
            makeInput();
        } else if (drawn < 31) {
            int cell = cellNumber();
            int value = small();
            compare("set(" + cell + ", " + value + ")", () -> real.set(cell, value), () -> naive.set(cell, value));
        } else if (drawn < 42) {
            tellProperty();
        } else if (drawn < 49) {
            int cell = cellNumber();
            compare("drop(" + cell + ")", () -> real.drop(cell), () -> naive.drop(cell));
        } else if (drawn < 50) {
            int cell = cellNumber();
            int owner = below(7) - below(2);
            compare("own(" + cell + ", " + owner + ")", () -> real.own(cell, owner), () -> naive.own(cell, owner));
        } else if (drawn < 68) {
            tryCell();
        } else if (drawn < 73) {
            waiveCell();
        } else if (drawn < 76) {
            int days = below(20) == 0 ? edge() : 1 + below(below(4) == 0 ? 101 : 6);
            compare("pass(" + days + ")", () -> real.pass(days), () -> naive.pass(days));
        } else {
            askCells();
        }
    }

    private void number(int number) {
        compare("number(" + number + ")", () -> real.number(number), () -> naive.number(number));
    }

    private void cell(int cell) {
        compare("cell(" + cell + ")", () -> real.cell(cell), () -> naive.cell(cell));
    }

    private void apply(int operation) {
        compare("apply(" + operation + ")", () -> real.apply(operation), () -> naive.apply(operation));
    }

    private void draftPart() {
        int drawn = below(4);
        if (drawn == 0) {
            number(below(3) == 0 ? edge() : small());
        } else if (drawn == 1) {
            cell(cellNumber());
        } else if (drawn == 2) {
            apply(below(14) - 1);
        } else {
            compare("wipe()", real::wipe, naive::wipe);
        }
    }

    private void enterFormula() {
        int leaves = 1 + below(3) + below(below(8) == 0 ? 5 : 1);
        int cell = cellNumber();
        compare("wipe()", real::wipe, naive::wipe);
        for (int i = 0; i < leaves; i++) {
            if (below(5) == 0) {
                number(small());
            } else {
                cell(cellFor(cell));
            }
        }
        for (int i = 1; i < leaves; i++) {
            apply(below(3) == 0 ? 3 : below(12));
        }
        count(compare("enter(" + cell + ")", () -> real.enter(cell), () -> naive.enter(cell)));
    }

    private void makeInput() {
        int cell = cellNumber();
        int low = small();
        int high = below(10) == 0 ? 1000000 : below(30) == 0 ? edge() : low + below(14);
        count(compare("input(" + cell + ", " + low + ", " + high + ")", () -> real.input(cell, low, high),
            () -> naive.input(cell, low, high)));
    }

    private void count(int untriedNow) {
        untried += untriedNow > 1 ? 1 : 0;
    }

    private void tellProperty() {
        int cell = cellNumber();
        int kind = below(40) == 0 ? edge() : below(4);
        int n = kind >= 2 ? cellNumber() : small() + (kind == 1 ? 25 : -18);
        compare("tell(" + cell + ", " + kind + ", " + n + ")", () -> real.tell(cell, kind, n),
            () -> naive.tell(cell, kind, n));
    }

    private void tryCell() {
        int cell = cellNumber();
        int seed = below(30) == 0 ? edge() : below(7875);
        int rows = below(30) == 0 ? edge() : 1 + below(20);
        boolean wasFailed = cell >= 0 && cell < 16 && naive.verdict(cell) == Gridprobe.FAILED;
        if (wasFailed && below(2) == 0) {
            compare("drop(" + cell + ")", () -> real.drop(cell), () -> naive.drop(cell));
        }
        int row = compare("attempt(" + cell + ", " + seed + ", " + rows + ")", () -> real.attempt(cell, seed, rows),
            () -> naive.attempt(cell, seed, rows));
        if (row >= 0) {
            askTrial(cell);
            shrunk += naive.smaller(cell) > 4 ? 1 : 0;
        } else if (row == Gridprobe.NONE && wasFailed) {
            mended++;
            longRows += naive.unlocked() > 3 ? 1 : 0;
            askUnlocked();
        }
    }

    private void waiveCell() {
        int cell = cellNumber();
        int days = below(20) == 0 ? edge() : below(below(4) == 0 ? 32 : 5);
        int owner = below(12) == 0 || cell < 0 || cell > 15 ? below(7) - 1 : ownerOf(cell);
        int answer = compare("waive(" + cell + ", " + owner + ", " + days + ")", () -> real.waive(cell, owner, days),
            () -> naive.waive(cell, owner, days));
        waived += answer >= 0 ? 1 : 0;
    }

    private int ownerOf(int cell) {
        int had = compare("own(" + cell + ", 0)", () -> real.own(cell, 0), () -> naive.own(cell, 0));
        compare("own(" + cell + ", " + had + ")", () -> real.own(cell, had), () -> naive.own(cell, had));
        return had;
    }

    private void askTrial(int cell) {
        compare("failing(" + cell + ")", () -> real.failing(cell), () -> naive.failing(cell));
        compare("smaller(" + cell + ")", () -> real.smaller(cell), () -> naive.smaller(cell));
        for (int i = 0; i < 3; i++) {
            askExample(cell, cellNumber());
        }
    }

    private void askExample(int cell, int input) {
        compare("example(" + cell + ", " + input + ")", () -> real.example(cell, input),
            () -> naive.example(cell, input));
    }

    private void askUnlocked() {
        int count = compare("unlocked()", real::unlocked, naive::unlocked);
        for (int i = 0; i < 5; i++) {
            int index = i == 4 ? count : below(count + 1);
            compare("unlockedAt(" + index + ")", () -> real.unlockedAt(index), () -> naive.unlockedAt(index));
        }
    }

    private void askCells() {
        int cell = cellNumber();
        String at = "(" + cell + ")";
        switch (below(10)) {
            case 0 -> compare("reads" + at, () -> real.reads(cell), () -> naive.reads(cell));
            case 1 -> compare("rests" + at, () -> real.rests(cell), () -> naive.rests(cell));
            case 2, 3 -> compare("show" + at, () -> real.show(cell), () -> naive.show(cell));
            case 4 -> compare("verdict" + at, () -> real.verdict(cell), () -> naive.verdict(cell));
            case 5 -> askTrial(cell);
            case 6 -> askUnlocked();
            case 7 -> compare("isMarked" + at, () -> real.isMarked(cell) ? 1 : 0, () -> naive.isMarked(cell) ? 1 : 0);
            case 8 -> {
                compare("isLocked" + at, () -> real.isLocked(cell) ? 1 : 0, () -> naive.isLocked(cell) ? 1 : 0);
                compare("isLockedByWays" + at, () -> real.isLockedByWays(cell) ? 1 : 0,
                    () -> naive.isLocked(cell) ? 1 : 0);
            }
            default -> {
                compare("locked()", real::locked, naive::locked);
                compare("drafted()", real::drafted, naive::drafted);
                compare("today()", real::today, naive::today);
            }
        }
    }
}
