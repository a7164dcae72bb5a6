import java.util.ArrayList;
import java.util.HashMap;
import java.util.List;
import java.util.Map;
import java.util.NoSuchElementException;
import java.util.TreeSet;

/** The document once more, as literally as can be: trees and sets, walked anew for each answer. */
final class NaiveGridprobe {
    private static final class Fault extends Exception {
        private static final long serialVersionUID = 1L;
    }

    private record Node(char sign, int number, Node first, Node second) {
    }

    private static final class Cell {
        Node formula;
        int low, high, value, owner;
        List<int[]> told = new ArrayList<>();
        int verdict = Gridprobe.UNTRIED;
        int failing, smaller;
        Map<Integer, Integer> example;
        int lastDay = -1;
    }

    private final List<Node> draft = new ArrayList<>();
    private int parts;
    private final List<Cell> cells = new ArrayList<>();
    private int today;
    private List<Integer> unlocked = new ArrayList<>();

    NaiveGridprobe() {
        for (int i = 0; i < 16; i++) {
            cells.add(new Cell());
        }
    }

    private Cell at(int cell) {
        if (cell < 0 || cell > 15) {
            throw new IndexOutOfBoundsException();
        }
        return cells.get(cell);
    }

    private void refuseIf(boolean wrong) {
        if (wrong) {
            throw new IllegalArgumentException();
        }
    }

    private void stopIf(boolean wrong) {
        if (wrong) {
            throw new IllegalStateException();
        }
    }

    private int put(Node node) {
        stopIf(parts == 12);
        draft.add(node);
        parts++;
        return draft.size();
    }

    int number(int number) {
        return put(new Node('n', number, null, null));
    }

    int cell(int cell) {
        at(cell);
        return put(new Node('c', cell, null, null));
    }

    int apply(int operation) {
        refuseIf(operation < 0 || operation > 11);
        stopIf(draft.size() < 2 || parts == 12);
        Node second = draft.remove(draft.size() - 1);
        Node first = draft.remove(draft.size() - 1);
        return put(new Node('o', operation, first, second));
    }

    int wipe() {
        int had = parts;
        draft.clear();
        parts = 0;
        return had;
    }

    int enter(int cell) {
        Cell entered = at(cell);
        stopIf(draft.size() != 1);
        for (int read : readBy(draft.get(0))) {
            stopIf(read == cell || restedOn(read).contains(cell));
        }
        entered.formula = draft.get(0);
        wipe();
        return changed(cell);
    }

    int input(int cell, int low, int high) {
        Cell made = at(cell);
        refuseIf(low < -1000000 || low > 1000000 || high < low || high > 1000000);
        made.formula = null;
        made.low = low;
        made.high = high;
        made.value = low;
        return changed(cell);
    }

    private int changed(int cell) {
        at(cell).lastDay = -1;
        int count = 0;
        for (int i = 0; i < 16; i++) {
            if ((i == cell || restedOn(i).contains(cell)) && at(i).verdict == Gridprobe.PASSED) {
                at(i).verdict = Gridprobe.UNTRIED;
                count++;
            }
        }
        return count;
    }

    int set(int cell, int value) {
        Cell changed = at(cell);
        stopIf(changed.formula != null);
        refuseIf(value < changed.low || value > changed.high);
        int had = changed.value;
        changed.value = value;
        return had;
    }

    int tell(int cell, int kind, int n) {
        Cell told = at(cell);
        if (kind == Gridprobe.SAME || kind == Gridprobe.RISING) {
            at(n);
        }
        refuseIf(kind < 0 || kind > 3);
        stopIf(told.told.size() == 4);
        told.told.add(new int[] {kind, n});
        if (told.verdict == Gridprobe.PASSED) {
            told.verdict = Gridprobe.UNTRIED;
        }
        return told.told.size();
    }

    int drop(int cell) {
        int had = at(cell).told.size();
        at(cell).told.clear();
        return had;
    }

    int own(int cell, int owner) {
        Cell owned = at(cell);
        refuseIf(owner < 0 || owner > 5);
        int had = owned.owner;
        owned.owner = owner;
        return had;
    }

    int attempt(int cell, int seed, int rows) {
        Cell tried = at(cell);
        refuseIf(seed < 0 || seed > 7874 || rows < 1 || rows > 20);
        int number = seed;
        for (int at = 0; at < rows; at++) {
            Map<Integer, Integer> row = new HashMap<>();
            for (int i = 0; i < 16; i++) {
                Cell input = cells.get(i);
                if (input.formula == null) {
                    if (at > 1) {
                        number = (421 * number + 1663) % 7875;
                    }
                    int drawn = input.low + number % (input.high - input.low + 1);
                    row.put(i, at == 0 ? input.low : at == 1 ? input.high : drawn);
                }
            }
            for (int p = 0; p < tried.told.size(); p++) {
                if (!holds(cell, tried.told.get(p), row)) {
                    tried.smaller = makeSmaller(cell, tried.told.get(p), row);
                    tried.verdict = Gridprobe.FAILED;
                    tried.failing = p;
                    tried.example = row;
                    return at;
                }
            }
        }
        mend(cell);
        return -1;
    }

    private void mend(int cell) {
        boolean wasFailed = at(cell).verdict == Gridprobe.FAILED;
        List<Integer> ahead = allLocked();
        at(cell).verdict = Gridprobe.PASSED;
        at(cell).example = null;
        if (wasFailed) {
            List<Integer> row = new ArrayList<>();
            row.add(cell);
            for (int i = 0; i < row.size(); i++) {
                for (int reader = 0; reader < 16; reader++) {
                    if (readBy(reader).contains(row.get(i)) && !row.contains(reader)) {
                        row.add(reader);
                    }
                }
            }
            List<Integer> behind = allLocked();
            row.removeIf(one -> !ahead.contains(one) || behind.contains(one));
            unlocked = row;
        }
    }

    private int makeSmaller(int cell, int[] property, Map<Integer, Integer> row) {
        int times = 0;
        search:
        while (times < 60) {
            for (int i = 0; i < 16; i++) {
                if (row.containsKey(i)) {
                    int had = row.get(i);
                    for (int d = had - at(i).low; d > 0; d = d / 2) {
                        row.put(i, had - d);
                        if (!holds(cell, property, row)) {
                            times++;
                            continue search;
                        }
                        row.put(i, had);
                    }
                }
            }
            return times;
        }
        return times;
    }

    private boolean holds(int cell, int[] property, Map<Integer, Integer> row) {
        try {
            int value = value(cell, row);
            int n = property[1];
            switch (property[0]) {
                case Gridprobe.LEAST:
                    return value >= n;
                case Gridprobe.MOST:
                    return value <= n;
                case Gridprobe.SAME:
                    return value == value(n, row);
                default:
                    if (at(n).formula != null || row.get(n) == at(n).high) {
                        return true;
                    }
                    Map<Integer, Integer> more = new HashMap<>(row);
                    more.put(n, row.get(n) + 1);
                    return value(cell, more) >= value;
            }
        } catch (Fault e) {
            return false;
        }
    }

    private int value(int cell, Map<Integer, Integer> row) throws Fault {
        return at(cell).formula == null ? row.get(cell) : value(at(cell).formula, row);
    }

    private int value(Node node, Map<Integer, Integer> row) throws Fault {
        if (node.sign == 'n') {
            return node.number;
        }
        if (node.sign == 'c') {
            return value(node.number, row);
        }
        int a = value(node.first, row);
        int b = value(node.second, row);
        if (node.number == 3 && b == 0) {
            throw new Fault();
        }
        int places = (b % 32 + 32) % 32;
        return switch (node.number) {
            case 0 -> a + b;
            case 1 -> a - b;
            case 2 -> a * b;
            case 3 -> (int) ((long) a / b);
            case 4 -> a < b ? a : b;
            case 5 -> a > b ? a : b;
            case 6 -> a < b ? 1 : 0;
            case 7 -> a == b ? 1 : 0;
            case 8 -> a & b;
            case 9 -> a | b;
            case 10 -> (int) ((long) a << places);
            default -> (int) Math.floorDiv((long) a, 1L << places);
        };
    }

    int waive(int cell, int owner, int days) {
        Cell waived = at(cell);
        refuseIf(owner != waived.owner || days < 0 || days > 30);
        stopIf(!isLocked(cell));
        waived.lastDay = today + days;
        return locked();
    }

    int pass(int days) {
        refuseIf(days < 1 || days > 100);
        stopIf(today + days > 10000);
        today += days;
        return locked();
    }

    int drafted() {
        return parts;
    }

    int today() {
        return today;
    }

    private TreeSet<Integer> readBy(Node node) {
        TreeSet<Integer> read = new TreeSet<>();
        if (node.sign == 'c') {
            read.add(node.number);
        } else if (node.sign == 'o') {
            read.addAll(readBy(node.first));
            read.addAll(readBy(node.second));
        }
        return read;
    }

    private TreeSet<Integer> readBy(int cell) {
        return at(cell).formula == null ? new TreeSet<>() : readBy(at(cell).formula);
    }

    private TreeSet<Integer> restedOn(int cell) {
        TreeSet<Integer> set = new TreeSet<>();
        for (int read : readBy(cell)) {
            set.add(read);
            set.addAll(restedOn(read));
        }
        return set;
    }

    private int bits(TreeSet<Integer> set) {
        int bits = 0;
        for (int cell : set) {
            bits += 1 << cell;
        }
        return bits;
    }

    int reads(int cell) {
        return bits(readBy(cell));
    }

    int rests(int cell) {
        at(cell);
        return bits(restedOn(cell));
    }

    int show(int cell) {
        stopIf(isLocked(cell));
        Map<Integer, Integer> row = new HashMap<>();
        for (int i = 0; i < 16; i++) {
            row.put(i, at(i).value);
        }
        try {
            return value(cell, row);
        } catch (Fault e) {
            throw new ArithmeticException();
        }
    }

    int verdict(int cell) {
        return at(cell).verdict;
    }

    int failing(int cell) {
        return at(cell).verdict == Gridprobe.FAILED ? at(cell).failing : -1;
    }

    int example(int cell, int input) {
        at(cell);
        at(input);
        if (at(cell).example == null || !at(cell).example.containsKey(input)) {
            throw new NoSuchElementException();
        }
        return at(cell).example.get(input);
    }

    int smaller(int cell) {
        return at(cell).example == null ? -1 : at(cell).smaller;
    }

    boolean isLocked(int cell) {
        if (at(cell).lastDay >= today) {
            return false;
        }
        if (at(cell).verdict == Gridprobe.FAILED) {
            return true;
        }
        for (int read : readBy(cell)) {
            if (isLocked(read)) {
                return true;
            }
        }
        return false;
    }

    boolean isMarked(int cell) {
        if (at(cell).verdict == Gridprobe.FAILED) {
            return true;
        }
        for (int rested : restedOn(cell)) {
            if (at(rested).verdict == Gridprobe.FAILED) {
                return true;
            }
        }
        return false;
    }

    private List<Integer> allLocked() {
        List<Integer> all = new ArrayList<>();
        for (int i = 0; i < 16; i++) {
            if (isLocked(i)) {
                all.add(i);
            }
        }
        return all;
    }

    int locked() {
        return allLocked().size();
    }

    int unlocked() {
        return unlocked.size();
    }

    int unlockedAt(int index) {
        if (index < 0 || index >= unlocked.size()) {
            throw new IndexOutOfBoundsException();
        }
        return unlocked.get(index);
    }
}
