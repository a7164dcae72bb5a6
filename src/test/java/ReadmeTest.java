/** The calls of the example in README.md, in its order, have to answer what it says. */
public final class ReadmeTest {
    public static void main(String[] args) {
        Checks checks = new Checks();
        Gridprobe x = new Gridprobe();
        x.input(0, 0, 100);
        x.input(1, -5, 5);
        Checks.enter(x, 2, "c0 c1 o2");
        Checks.enter(x, 3, "c2");
        x.set(0, 7);
        x.set(1, 3);
        checks.due("show", x.show(3), 21);
        x.tell(2, Gridprobe.MOST, 40);
        checks.due("attempt", x.attempt(2, 0, 2), 1);
        checks.due("verdict", x.verdict(2), Gridprobe.FAILED);
        checks.due("failing", x.failing(2), 0);
        checks.due("example of 0", x.example(2, 0), 9);
        checks.due("example of 1", x.example(2, 1), 5);
        checks.due("smaller", x.smaller(2), 5);
        checks.due("isLocked", x.isLocked(3), true);
        checks.dueOutcome("show, locked", x, y -> y.show(3), "IllegalStateException");
        checks.due("waive", x.waive(2, 0, 3), 0);
        checks.due("isMarked", x.isMarked(3), true);
        checks.due("pass", x.pass(4), 2);
        x.input(1, -5, 0);
        checks.due("attempt, mended", x.attempt(2, 0, 20), Gridprobe.NONE);
        checks.due("unlocked", x.unlocked(), 2);
        checks.due("unlockedAt", x.unlockedAt(1), 3);
        checks.close();
    }
}
