import java.util.ArrayDeque;
import java.util.ArrayList;
import java.util.Deque;
import java.util.List;
import java.util.Random;
import java.util.function.Supplier;

/**
 * Many runs of calls, the same ones each time, on YardStacks and on a model of the document that is made
 * in another way: rows are lists, and a move is undone by bringing back a copy of all rows.
 */
public final class ModelTest {
    private static final int RUNS = 4000;
    /** With those that compare all in the end, below the 512 for which an object is promised. */
    private static final int CALLS = 360;
    private static final int MOST_WRONG = 20;
    /** A busy run has fewer rows to compare in the end; it tells its boxes first. */
    private static final int BUSY_CALLS = 440;
    private static final int BUSY_START = 40;
    private static final int KEPT = 100;

    private static int wrong = 0;

    public static void main(String[] args) {
        long calls = 0;
        int nightMoves = 0;
        int runsBeyondKept = 0;
        for (int run = 0; run < RUNS && wrong < MOST_WRONG; run++) {
            Pair pair = new Pair(run);
            while (pair.calls < (pair.busy ? BUSY_CALLS : CALLS) && !pair.differs) {
                pair.anyCall();
            }
            pair.compareAll();
            calls += pair.calls;
            nightMoves += pair.nightMoves;
            runsBeyondKept += pair.beyondKept ? 1 : 0;
        }
        System.out.println("ModelTest: " + RUNS + " runs, " + calls + " calls, " + nightMoves
            + " moves by night, " + runsBeyondKept + " runs that undo all that is kept, " + wrong + " wrong");
        if (wrong != 0 || nightMoves == 0 || runsBeyondKept == 0) {
            System.exit(1);
        }
    }

    /** YardStacks and the model, called alike. */
    private static final class Pair {
        final int run;
        final Random random;
        final YardStacks real;
        final Model model;
        final int rows;
        final int days;
        final int weights;
        final int ships;
        final boolean manyKinds;
        /** Moves more often than is kept, then undoes till nothing is kept, mostly. */
        final boolean busy;
        boolean undoing = false;
        boolean differs = false;
        boolean beyondKept = false;
        int calls = 0;
        int nightMoves = 0;

        Pair(int run) {
            this.run = run;
            this.random = new Random(run);
            this.busy = run % 6 == 1;
            this.rows = run % 50 == 0 ? 16 : busy ? 3 + random.nextInt(4) : 1 + random.nextInt(6);
            int tiers = 1 + random.nextInt(8);
            int bears = run % 3 == 0 ? 20 + random.nextInt(100) : 400;
            this.days = 2 + random.nextInt(10);
            this.weights = run % 3 == 1 ? 1 : 1 + random.nextInt(run % 2 == 0 ? 3 : 40);
            this.ships = 1 + random.nextInt(3);
            this.manyKinds = run % 4 == 0;
            this.real = new YardStacks(rows, tiers, bears);
            this.model = new Model(rows, tiers, bears);
        }

        void same(String call, Supplier<Object> ofReal, Supplier<Object> ofModel) {
            calls++;
            String got = answer(ofReal);
            String want = answer(ofModel);
            if (!got.equals(want)) {
                differs = true;
                wrong++;
                System.out.println("run " + run + ", call " + calls + ": " + call + " answered " + got
                    + ", due is " + want);
            }
        }

        /** A row, a few of them not there. */
        int anyRow() {
            return random.nextInt(40) == 0 ? random.nextInt(40) - 20 : random.nextInt(rows);
        }

        /** A box, a few of them not there. */
        int anyBox() {
            int told = model.boxes.size();
            return told == 0 || random.nextInt(40) == 0 ? random.nextInt(80) - 10 : random.nextInt(told);
        }

        void anyCall() {
            if (busy && calls > BUSY_START && random.nextInt(10) < 9) {
                busyCall();
                return;
            }
            int which = random.nextInt(100);
            int box = anyBox();
            int row = anyRow();
            if (which < 14) {
                anyNewBox();
            } else if (which < 17) {
                int kind = random.nextInt(20) == 0 ? random.nextInt(9) - 4 : manyKinds ? random.nextInt(3) : 0;
                same("ground(" + row + ", " + kind + ")", () -> real.ground(row, kind), () -> model.ground(row, kind));
            } else if (which < 20) {
                int ship = random.nextInt(20) == 0 ? random.nextInt(20) - 5 : random.nextInt(ships + 1);
                same("reserve(" + row + ", " + ship + ")", () -> real.reserve(row, ship),
                    () -> model.reserve(row, ship));
            } else if (which < 55) {
                same("put(" + box + ", " + row + ")", () -> real.put(box, row), () -> model.put(box, row));
            } else if (which < 58) {
                same("take(" + box + ")", () -> real.take(box), () -> model.take(box));
            } else if (which < 68) {
                same("shift(" + box + ", " + row + ")", () -> real.shift(box, row), () -> model.shift(box, row));
            } else if (which < 75) {
                same("choose(" + box + ")", () -> real.choose(box), () -> model.choose(box));
            } else if (which < 82) {
                same("score(" + box + ", " + row + ")", () -> real.score(box, row), () -> model.score(box, row));
            } else if (which < 85) {
                anyNight();
            } else if (which < 90) {
                anyUndo();
            } else {
                anyQuestion(box, row);
            }
        }

        void busyCall() {
            if (undoing) {
                undoing = random.nextInt(model.past.isEmpty() ? 4 : 150) != 0;
                anyUndo();
            } else {
                undoing = model.past.size() == KEPT && random.nextInt(12) == 0;
                anyMoveOfATopBox();
            }
        }

        void anyUndo() {
            same("undo()", () -> real.undo(), () -> model.undo());
            beyondKept |= model.past.isEmpty() && model.made > 0;
        }

        void anyMoveOfATopBox() {
            int row = random.nextInt(rows);
            List<Box> there = model.rows.get(random.nextInt(rows));
            int box = there.isEmpty() ? anyBox() : there.get(there.size() - 1).number;
            int which = random.nextInt(10);
            if (there.isEmpty()) {
                same("put(" + box + ", " + row + ")", () -> real.put(box, row), () -> model.put(box, row));
            } else if (which < 7) {
                same("shift(" + box + ", " + row + ")", () -> real.shift(box, row), () -> model.shift(box, row));
            } else if (which < 9) {
                same("take(" + box + ")", () -> real.take(box), () -> model.take(box));
            } else {
                anyNight();
            }
        }

        void anyNewBox() {
            boolean odd = random.nextInt(30) == 0;
            int size = odd ? random.nextInt(6) - 1 : run % 4 == 0 && random.nextInt(8) == 0 ? 2 : 1;
            int weight = odd ? random.nextInt(45) - 2 : 1 + random.nextInt(weights);
            int leaves = odd ? random.nextInt(1010) - 5 : random.nextInt(days);
            int ship = odd ? random.nextInt(13) - 2 : 1 + random.nextInt(ships);
            int kind = odd ? random.nextInt(6) - 2 : manyKinds ? random.nextInt(3) : 0;
            same("box(" + size + ", " + weight + ", " + leaves + ", " + ship + ", " + kind + ")",
                () -> real.box(size, weight, leaves, ship, kind),
                () -> model.box(size, weight, leaves, ship, kind));
        }

        void anyNight() {
            int most = random.nextInt(10) == 0 ? random.nextInt(70) - 10 : random.nextInt(12);
            int before = model.made;
            same("night(" + most + ")", () -> real.night(most), () -> model.night(most));
            nightMoves += model.made - before;
        }

        void anyQuestion(int box, int row) {
            int what = random.nextInt(130) - 15;
            int part = random.nextInt(12) - 1;
            same("count(" + what + ")", () -> real.count(what), () -> model.count(what));
            same("where(" + box + ", " + part + ")", () -> real.where(box, part), () -> model.where(box, part));
            same("at(" + row + ", " + part + ")", () -> real.at(row, part), () -> model.at(row, part));
        }

        void compareAll() {
            for (int row = 0; row < rows; row++) {
                int r = row;
                for (int tier = 0; tier < model.tiers; tier++) {
                    int t = tier;
                    same("at(" + r + ", " + t + ")", () -> real.at(r, t), () -> model.at(r, t));
                }
            }
            for (int what = 3; what < 8; what++) {
                int w = what;
                same("count(" + w + ")", () -> real.count(w), () -> model.count(w));
            }
        }
    }

    private static String answer(Supplier<Object> call) {
        try {
            return String.valueOf(call.get());
        } catch (RuntimeException e) {
            return "throws." + e.getClass().getSimpleName();
        }
    }

    private record Box(int number, int size, int weight, int leaves, int ship, int kind) {
    }

    private record Snapshot(List<List<Box>> rows, int moved) {
    }

    /** The document once more, slowly. */
    private static final class Model {
        final int tiers;
        final int bears;
        final List<Box> boxes = new ArrayList<>();
        List<List<Box>> rows = new ArrayList<>();
        final int[] grounds;
        final int[] reserved;
        final Deque<Snapshot> past = new ArrayDeque<>();
        int made = 0;

        Model(int rowCount, int tiers, int bears) {
            this.tiers = tiers;
            this.bears = bears;
            for (int row = 0; row < rowCount; row++) {
                rows.add(new ArrayList<>());
            }
            grounds = new int[rowCount];
            reserved = new int[rowCount];
        }

        Box known(int box) {
            if (box < 0 || box >= boxes.size()) {
                throw new IndexOutOfBoundsException();
            }
            return boxes.get(box);
        }

        void knownRow(int row) {
            if (row < 0 || row >= rows.size()) {
                throw new IndexOutOfBoundsException();
            }
        }

        int rowOf(Box b) {
            for (int row = 0; row < rows.size(); row++) {
                if (rows.get(row).contains(b)) {
                    return row;
                }
            }
            return -1;
        }

        boolean isTop(Box b) {
            int row = rowOf(b);
            return row >= 0 && rows.get(row).indexOf(b) == rows.get(row).size() - 1;
        }

        long sooner(Box b, List<Box> others) {
            return others.stream().filter(o -> o.leaves < b.leaves).count();
        }

        boolean inTheWay(Box b) {
            int row = rowOf(b);
            return row >= 0 && sooner(b, rows.get(row).subList(0, rows.get(row).indexOf(b))) > 0;
        }

        int rule(Box b, int row, boolean forShift) {
            List<Box> there = rows.get(row);
            boolean[] broken = new boolean[9];
            broken[1] = forShift ? there.contains(b) : rowOf(b) >= 0;
            broken[2] = reserved[row] > 0 && reserved[row] != b.ship;
            broken[3] = there.size() == tiers;
            broken[4] = there.stream().mapToInt(Box::weight).sum() + b.weight > bears;
            broken[5] = there.stream().anyMatch(o -> o.size != b.size);
            broken[6] = !there.isEmpty() && b.weight > there.get(there.size() - 1).weight;
            broken[7] = b.kind == 1 && grounds[row] != 1;
            broken[8] = b.kind == 2 && grounds[row] != 2 || b.kind != 2 && grounds[row] == 2;
            for (int rule = 1; rule <= 8; rule++) {
                if (broken[rule]) {
                    return -rule;
                }
            }
            return 1;
        }

        int points(Box b, int row) {
            List<Box> there = rows.get(row);
            int points = 20;
            if (!there.isEmpty()) {
                Box top = there.get(there.size() - 1);
                points = 40 - 15 * (int) sooner(b, there);
                points += top.ship == b.ship ? 12 : 0;
                int less = 3 * (top.weight - b.weight);
                points -= less > 24 ? 24 : less;
            }
            return reserved[row] == b.ship ? points + 30 : points;
        }

        int best(Box b, boolean forShift, boolean clear) {
            int best = -1;
            int most = Integer.MIN_VALUE;
            for (int row = 0; row < rows.size(); row++) {
                boolean fits = rule(b, row, forShift) == 1 && !(clear && sooner(b, rows.get(row)) > 0);
                if (fits && points(b, row) > most) {
                    best = row;
                    most = points(b, row);
                }
            }
            return best;
        }

        void move(Box b, int row) {
            List<List<Box>> copy = new ArrayList<>();
            for (List<Box> boxesOfRow : rows) {
                copy.add(new ArrayList<>(boxesOfRow));
            }
            past.addLast(new Snapshot(copy, b.number));
            if (past.size() > KEPT) {
                past.removeFirst();
            }
            made++;
            rows.forEach(boxesOfRow -> boxesOfRow.remove(b));
            if (row >= 0) {
                rows.get(row).add(b);
            }
        }

        int box(int size, int weight, int leaves, int ship, int kind) {
            if (size < 1 || size > 3 || weight < 1 || weight > 40 || leaves < 0 || leaves > 1000 || ship < 1
                || ship > 9 || kind < 0 || kind > 2) {
                throw new IllegalArgumentException();
            }
            if (boxes.size() == 60) {
                throw new IllegalStateException();
            }
            boxes.add(new Box(boxes.size(), size, weight, leaves, ship, kind));
            return boxes.size() - 1;
        }

        boolean ground(int row, int kind) {
            if (row < 0 || row >= rows.size() || kind < 0 || kind > 2 || !rows.get(row).isEmpty()) {
                return false;
            }
            grounds[row] = kind;
            return true;
        }

        boolean reserve(int row, int ship) {
            if (row < 0 || row >= rows.size() || ship < 0 || ship > 9) {
                return false;
            }
            if (ship > 0 && rows.get(row).stream().anyMatch(b -> b.ship != ship)) {
                return false;
            }
            reserved[row] = ship;
            return true;
        }

        int put(int box, int row) {
            Box b = known(box);
            knownRow(row);
            int answer = rule(b, row, false);
            if (answer == 1) {
                move(b, row);
            }
            return answer;
        }

        int take(int box) {
            Box b = known(box);
            if (!isTop(b)) {
                return 0;
            }
            move(b, -1);
            return 1;
        }

        int shift(int box, int row) {
            Box b = known(box);
            knownRow(row);
            if (!isTop(b)) {
                return 0;
            }
            int answer = rule(b, row, true);
            if (answer == 1) {
                move(b, row);
            }
            return answer;
        }

        int choose(int box) {
            return best(known(box), false, false);
        }

        int score(int box, int row) {
            Box b = known(box);
            knownRow(row);
            if (rule(b, row, false) != 1) {
                throw new IllegalStateException();
            }
            return points(b, row);
        }

        int night(int moves) {
            if (moves < 0 || moves > 50) {
                throw new IllegalArgumentException();
            }
            int done = 0;
            while (done < moves) {
                Box next = null;
                for (List<Box> there : rows) {
                    Box top = there.isEmpty() ? null : there.get(there.size() - 1);
                    boolean can = top != null && inTheWay(top) && best(top, true, true) >= 0;
                    if (can && (next == null || sooner(top, there) > sooner(next, rows.get(rowOf(next))))) {
                        next = top;
                    }
                }
                if (next == null) {
                    return done;
                }
                move(next, best(next, true, true));
                done++;
            }
            return done;
        }

        int undo() {
            if (past.isEmpty()) {
                return -1;
            }
            Snapshot last = past.removeLast();
            rows = last.rows;
            made--;
            return last.moved;
        }

        int where(int box, int what) {
            Box b = known(box);
            if (what < 0 || what > 8) {
                throw new IndexOutOfBoundsException();
            }
            int row = rowOf(b);
            int tier = row < 0 ? -1 : rows.get(row).indexOf(b);
            int above = row < 0 ? 0 : rows.get(row).size() - tier - 1;
            int[] all = {row, tier, above, inTheWay(b) ? 1 : 0, b.size, b.weight, b.leaves, b.ship, b.kind};
            return all[what];
        }

        int at(int row, int tier) {
            knownRow(row);
            if (tier < 0 || tier >= tiers) {
                throw new IndexOutOfBoundsException();
            }
            return tier < rows.get(row).size() ? rows.get(row).get(tier).number : -1;
        }

        int count(int what) {
            int standing = (int) boxes.stream().filter(b -> rowOf(b) >= 0).count();
            int inTheWay = (int) boxes.stream().filter(this::inTheWay).count();
            int[] all = {rows.size(), tiers, bears, boxes.size(), standing, made, inTheWay, past.size()};
            if (what >= 0 && what < all.length) {
                return all[what];
            }
            for (int row = 0; row < rows.size(); row++) {
                if (what == 20 + row) {
                    return rows.get(row).size();
                } else if (what == 40 + row) {
                    return rows.get(row).stream().mapToInt(Box::weight).sum();
                } else if (what == 60 + row) {
                    return grounds[row];
                } else if (what == 80 + row) {
                    return reserved[row];
                }
            }
            return -1;
        }
    }
}
