import java.util.ArrayList;
import java.util.Arrays;
import java.util.List;
import java.util.function.Function;
import java.util.function.Supplier;

/** The promises of the document one by one: ordinary inputs, edges and wrong inputs. */
public final class PromisesTest {
    private static final String BAD_ARGUMENT = "throws.IllegalArgumentException";
    private static final String BAD_STATE = "throws.IllegalStateException";
    private static final String BAD_INDEX = "throws.IndexOutOfBoundsException";
    private static final int[] FAR_OFF = {Integer.MIN_VALUE, -1000, 1000, Integer.MAX_VALUE};

    private static int checks = 0;
    private static int wrong = 0;

    public static void main(String[] args) {
        newObject();
        boxIsTold();
        boxThatCantBe();
        sixtyBoxes();
        groundOfARow();
        reservedRow();
        putBreaksTheFirstRule();
        putAtTheEdgesOfTheRules();
        takeFromTheTop();
        shiftFromTheTop();
        shiftAsksTheRules();
        chooseTheBestRow();
        chooseBelowNought();
        scoreOfARow();
        scoreThatCantBe();
        nightMovesAside();
        nightPrefersTheMostInTheWay();
        nightKeepsToTheRules();
        nightTakesTheBestClearRow();
        nightHasLimits();
        undoGoesBack();
        undoAsksNoRule();
        undoKeepsAHundred();
        whereOfABox();
        atARowAndTier();
        countOfTheYard();
        countOfBoxesInTheWay();
        countOfRows();
        System.out.println("PromisesTest: " + checks + " checks, " + wrong + " wrong");
        if (wrong != 0) {
            System.exit(1);
        }
    }

    private static void due(String call, Object want, Supplier<Object> got) {
        checks++;
        String answer;
        try {
            answer = String.valueOf(got.get());
        } catch (RuntimeException e) {
            answer = "throws." + e.getClass().getSimpleName();
        }
        if (!answer.equals(String.valueOf(want))) {
            wrong++;
            System.out.println(call + " answered " + answer + ", due is " + want);
        }
    }

    /** As due, and nothing that can be asked for has changed. */
    private static void refused(Yard x, String call, Object want, Supplier<Object> got) {
        String before = x.state();
        due(call, want, got);
        due(call + " changes", before, () -> x.state());
    }

    /**
     * A yard that remembers its calls, so that all its state can be asked of a second object after the same
     * calls: asking the first one would use up the 512 calls for which an object is promised.
     */
    private static final class Yard {
        private static final int MOST_CALLS = 512;

        private final Supplier<YardStacks> maker;
        private final YardStacks real;
        private final List<Function<YardStacks, Object>> calls = new ArrayList<>();

        Yard(int rows, int tiers, int bears) {
            maker = () -> new YardStacks(rows, tiers, bears);
            real = maker.get();
        }

        private Object call(Function<YardStacks, Object> f) {
            calls.add(f);
            if (calls.size() > MOST_CALLS) {
                throw new AssertionError("the test makes too many calls");
            }
            return f.apply(real);
        }

        private YardStacks replayed() {
            YardStacks second = maker.get();
            for (Function<YardStacks, Object> f : calls) {
                try {
                    f.apply(second);
                } catch (RuntimeException e) {
                    continue;
                }
            }
            return second;
        }

        String state() {
            YardStacks second = replayed();
            List<Integer> all = new ArrayList<>();
            for (int what = 0; what < 8; what++) {
                all.add(second.count(what));
            }
            for (int row = 0; row < all.get(0); row++) {
                for (int what = 20; what < 100; what += 20) {
                    all.add(second.count(what + row));
                }
                for (int tier = 0; tier < all.get(1); tier++) {
                    all.add(second.at(row, tier));
                }
            }
            // Of many boxes these are enough, and stay within the calls.
            for (int box = 0; box < Math.min(20, all.get(3)); box++) {
                for (int what = 0; what <= 8; what++) {
                    all.add(second.where(box, what));
                }
            }
            if (calls.size() + all.size() > MOST_CALLS) {
                throw new AssertionError("the state takes too many calls");
            }
            return all.toString();
        }

        int box(int size, int weight, int leaves, int ship, int kind) {
            return (Integer) call(x -> x.box(size, weight, leaves, ship, kind));
        }

        boolean ground(int row, int kind) {
            return (Boolean) call(x -> x.ground(row, kind));
        }

        boolean reserve(int row, int ship) {
            return (Boolean) call(x -> x.reserve(row, ship));
        }

        int put(int box, int row) {
            return (Integer) call(x -> x.put(box, row));
        }

        int take(int box) {
            return (Integer) call(x -> x.take(box));
        }

        int shift(int box, int row) {
            return (Integer) call(x -> x.shift(box, row));
        }

        int choose(int box) {
            return (Integer) call(x -> x.choose(box));
        }

        int score(int box, int row) {
            return (Integer) call(x -> x.score(box, row));
        }

        int night(int moves) {
            return (Integer) call(x -> x.night(moves));
        }

        int undo() {
            return (Integer) call(x -> x.undo());
        }

        int where(int box, int what) {
            return (Integer) call(x -> x.where(box, what));
        }

        int at(int row, int tier) {
            return (Integer) call(x -> x.at(row, tier));
        }

        int count(int what) {
            return (Integer) call(x -> x.count(what));
        }
    }

    /** A yard whose ground bears all that can stand on it. */
    private static Yard yard(int rows, int tiers) {
        return new Yard(rows, tiers, 400);
    }

    private static int plain(Yard x, int weight, int leaves) {
        return x.box(1, weight, leaves, 1, 0);
    }

    // Promise 1
    private static void newObject() {
        int[][] told = {{1, 1, 1}, {16, 8, 400}, {5, 4, 77}, {0, 0, 0}, {-1, -1, -1}, {17, 9, 401},
            {Integer.MIN_VALUE, Integer.MIN_VALUE, Integer.MIN_VALUE},
            {Integer.MAX_VALUE, Integer.MAX_VALUE, Integer.MAX_VALUE}};
        int[][] held = {{1, 1, 1}, {16, 8, 400}, {5, 4, 77}, {1, 1, 1}, {1, 1, 1}, {16, 8, 400},
            {1, 1, 1}, {16, 8, 400}};
        for (int i = 0; i < told.length; i++) {
            Yard x = new Yard(told[i][0], told[i][1], told[i][2]);
            for (int what = 0; what < 3; what++) {
                int asked = what;
                due("new " + i + ": count(" + what + ")", held[i][what], () -> x.count(asked));
            }
            for (int what = 3; what < 8; what++) {
                int asked = what;
                due("new " + i + ": count(" + what + ")", 0, () -> x.count(asked));
            }
            for (int what = 20; what < 100; what += 20) {
                int asked = what;
                due("new " + i + ": count(" + what + ")", 0, () -> x.count(asked));
            }
            due("new: at(0, 0)", -1, () -> x.at(0, 0));
        }
    }

    // Promise 2
    private static void boxIsTold() {
        Yard x = yard(2, 2);
        due("box least", 0, () -> x.box(1, 1, 0, 1, 0));
        due("box most", 1, () -> x.box(3, 40, 1000, 9, 2));
        due("box like another", 2, () -> x.box(1, 1, 0, 1, 0));
        due("boxes told", 3, () -> x.count(3));
        due("none stands", 0, () -> x.count(4));
    }

    private static void boxThatCantBe() {
        Yard x = yard(2, 2);
        int[][] wrongOnes = {{0, 1, 1, 1, 0}, {4, 1, 1, 1, 0}, {1, 0, 1, 1, 0}, {1, 41, 1, 1, 0},
            {1, 1, -1, 1, 0}, {1, 1, 1001, 1, 0}, {1, 1, 1, 0, 0}, {1, 1, 1, 10, 0}, {1, 1, 1, 1, -1},
            {1, 1, 1, 1, 3}};
        for (int[] b : wrongOnes) {
            refused(x, "box of " + Arrays.toString(b), BAD_ARGUMENT,
                () -> x.box(b[0], b[1], b[2], b[3], b[4]));
        }
        for (int far : FAR_OFF) {
            int day = far == 1000 ? 2000 : far;
            refused(x, "box of size " + far, BAD_ARGUMENT, () -> x.box(far, 1, 1, 1, 0));
            refused(x, "box of weight " + far, BAD_ARGUMENT, () -> x.box(1, far, 1, 1, 0));
            refused(x, "box of day " + day, BAD_ARGUMENT, () -> x.box(1, 1, day, 1, 0));
            refused(x, "box of ship " + far, BAD_ARGUMENT, () -> x.box(1, 1, 1, far, 0));
            refused(x, "box of kind " + far, BAD_ARGUMENT, () -> x.box(1, 1, 1, 1, far));
        }
        due("box after wrong ones", 0, () -> x.box(1, 1, 1, 1, 0));
    }

    private static void sixtyBoxes() {
        Yard x = yard(2, 2);
        for (int i = 0; i < 60; i++) {
            int number = i;
            due("box " + i, number, () -> plain(x, 1, 1));
        }
        refused(x, "box 60", BAD_STATE, () -> plain(x, 1, 1));
        refused(x, "box 60 that can't be", BAD_ARGUMENT, () -> x.box(0, 1, 1, 1, 0));
        refused(x, "box 60 of no kind", BAD_ARGUMENT, () -> x.box(1, 1, 1, 1, 3));
        due("put the last", 1, () -> x.put(59, 1));
        refused(x, "put none", BAD_INDEX, () -> x.put(60, 1));
    }

    // Promise 3
    private static void groundOfARow() {
        Yard x = yard(3, 2);
        int box = plain(x, 1, 1);
        for (int kind = 2; kind >= 0; kind--) {
            int asked = kind;
            due("ground(2, " + kind + ")", true, () -> x.ground(2, asked));
            due("ground told", kind, () -> x.count(62));
            due("ground of another row", 0, () -> x.count(61));
        }
        refused(x, "ground(2, -1)", false, () -> x.ground(2, -1));
        refused(x, "ground(2, 3)", false, () -> x.ground(2, 3));
        refused(x, "ground(-1, 1)", false, () -> x.ground(-1, 1));
        refused(x, "ground(3, 1)", false, () -> x.ground(3, 1));
        for (int far : FAR_OFF) {
            refused(x, "ground of row " + far, false, () -> x.ground(far, 1));
            refused(x, "ground of kind " + far, false, () -> x.ground(1, far));
        }
        x.put(box, 0);
        refused(x, "ground below a box", false, () -> x.ground(0, 1));
        refused(x, "the same ground below a box", false, () -> x.ground(0, 0));
        x.take(box);
        due("ground when it is gone", true, () -> x.ground(0, 1));
        x.undo();
        refused(x, "ground when it is back", false, () -> x.ground(0, 0));
    }

    // Promise 4
    private static void reservedRow() {
        Yard x = yard(2, 3);
        int first = x.box(1, 9, 1, 4, 0);
        int second = x.box(1, 9, 1, 5, 0);
        due("reserve for the first ship", true, () -> x.reserve(0, 1));
        due("reserve for the last ship", true, () -> x.reserve(0, 9));
        due("reserved", 9, () -> x.count(80));
        due("the other row", 0, () -> x.count(81));
        due("reserve for none", true, () -> x.reserve(0, 0));
        due("reserved no more", 0, () -> x.count(80));
        refused(x, "reserve(0, 10)", false, () -> x.reserve(0, 10));
        refused(x, "reserve(0, -1)", false, () -> x.reserve(0, -1));
        refused(x, "reserve(2, 1)", false, () -> x.reserve(2, 1));
        refused(x, "reserve(-1, 1)", false, () -> x.reserve(-1, 1));
        refused(x, "reserve(2, 0)", false, () -> x.reserve(2, 0));
        for (int far : FAR_OFF) {
            refused(x, "reserve row " + far, false, () -> x.reserve(far, 1));
            refused(x, "reserve for ship " + far, false, () -> x.reserve(0, far));
        }
        x.put(first, 0);
        refused(x, "reserve for another than the box's", false, () -> x.reserve(0, 5));
        due("reserve for the box's", true, () -> x.reserve(0, 4));
        due("reserve for none over a box", true, () -> x.reserve(0, 0));
        x.put(second, 0);
        refused(x, "reserve for the lower one's", false, () -> x.reserve(0, 4));
        refused(x, "reserve for the upper one's", false, () -> x.reserve(0, 5));
        due("reserve for none over both", true, () -> x.reserve(0, 0));
    }

    // Promise 5
    /** One box that breaks rules 2 to 8 at once; the rules are mended one after the other. */
    private static void putBreaksTheFirstRule() {
        Yard x = new Yard(2, 1, 50);
        int low = x.box(1, 30, 1, 1, 0);
        int cooled = x.box(2, 31, 1, 2, 1);
        x.put(low, 0);
        x.reserve(0, 1);
        refused(x, "put: reserved for another", -2, () -> x.put(cooled, 0));
        x.reserve(0, 0);
        refused(x, "put: full", -3, () -> x.put(cooled, 0));

        Yard y = new Yard(2, 3, 50);
        y.box(1, 20, 1, 1, 0);
        y.put(0, 0);
        int heavy = y.box(2, 31, 1, 1, 1);
        refused(y, "put: too heavy for the ground", -4, () -> y.put(heavy, 0));
        int big = y.box(2, 21, 1, 1, 1);
        refused(y, "put: another size", -5, () -> y.put(big, 0));
        int heavier = y.box(1, 21, 1, 1, 1);
        refused(y, "put: heavier than the one below", -6, () -> y.put(heavier, 0));
        int cold = y.box(1, 20, 1, 1, 1);
        refused(y, "put: cooled without a plug", -7, () -> y.put(cold, 0));
        int dangerous = y.box(1, 20, 1, 1, 2);
        refused(y, "put: dangerous on plain ground", -8, () -> y.put(dangerous, 0));
        int fit = y.box(1, 20, 1, 1, 0);
        due("put: no rule broken", 1, () -> y.put(fit, 0));
        y.reserve(1, 9);
        refused(y, "put: in the yard already, whatever else", -1, () -> y.put(fit, 1));
        refused(y, "put: on its own row", -1, () -> y.put(fit, 0));
        for (int far : new int[] {-1, 7, Integer.MIN_VALUE, Integer.MAX_VALUE}) {
            refused(y, "put of box " + far, BAD_INDEX, () -> y.put(far, 0));
        }
        for (int far : new int[] {-1, 2, 16, Integer.MIN_VALUE, Integer.MAX_VALUE}) {
            refused(y, "put on row " + far, BAD_INDEX, () -> y.put(heavy, far));
        }
    }

    private static void putAtTheEdgesOfTheRules() {
        Yard x = new Yard(4, 2, 40);
        int plain = x.box(1, 40, 1, 1, 0);
        int cooled = x.box(1, 20, 1, 1, 1);
        int dangerous = x.box(1, 20, 1, 1, 2);
        int light = x.box(1, 20, 1, 1, 0);
        int one = x.box(1, 1, 1, 1, 0);
        x.ground(1, 1);
        x.ground(2, 2);
        refused(x, "plain on dangerous ground", -8, () -> x.put(plain, 2));
        refused(x, "cooled on dangerous ground", -7, () -> x.put(cooled, 2));
        refused(x, "cooled on plain ground", -7, () -> x.put(cooled, 0));
        refused(x, "dangerous on a plug", -8, () -> x.put(dangerous, 1));
        refused(x, "dangerous on plain ground", -8, () -> x.put(dangerous, 0));
        due("cooled on a plug", 1, () -> x.put(cooled, 1));
        due("dangerous on its ground", 1, () -> x.put(dangerous, 2));
        due("as much as the ground bears", 1, () -> x.put(plain, 0));
        refused(x, "one more than it bears", -4, () -> x.put(one, 0));
        due("plain on a plug, as heavy as the one below", 1, () -> x.put(light, 1));
        refused(x, "full comes ahead of too heavy", -3, () -> x.put(one, 1));
        due("moves", 4, () -> x.count(5));
        x.reserve(3, 1);
        due("reserved for its own ship", 1, () -> x.put(one, 3));
        due("where it is put", 3, () -> x.where(one, 0));
    }

    // Promise 6
    private static void takeFromTheTop() {
        Yard x = yard(2, 3);
        int low = plain(x, 9, 1);
        int high = plain(x, 9, 2);
        refused(x, "take what does not stand", 0, () -> x.take(low));
        x.put(low, 1);
        x.put(high, 1);
        refused(x, "take from below", 0, () -> x.take(low));
        due("take", 1, () -> x.take(high));
        due("its row", -1, () -> x.where(high, 0));
        due("its tier", -1, () -> x.where(high, 1));
        due("its place", -1, () -> x.at(1, 1));
        due("boxes of the row", 1, () -> x.count(21));
        due("moves", 3, () -> x.count(5));
        refused(x, "take again", 0, () -> x.take(high));
        due("take the other", 1, () -> x.take(low));
        due("none stands", 0, () -> x.count(4));
        due("put again", 1, () -> x.put(high, 0));
        for (int far : new int[] {-1, 2, Integer.MIN_VALUE, Integer.MAX_VALUE}) {
            refused(x, "take of box " + far, BAD_INDEX, () -> x.take(far));
        }
    }

    // Promise 7
    private static void shiftFromTheTop() {
        Yard x = yard(2, 3);
        int low = plain(x, 9, 1);
        int high = plain(x, 9, 2);
        refused(x, "shift what does not stand", 0, () -> x.shift(low, 1));
        x.put(low, 0);
        x.put(high, 0);
        refused(x, "shift from below", 0, () -> x.shift(low, 1));
        refused(x, "shift from below onto its own row", 0, () -> x.shift(low, 0));
        refused(x, "shift onto its own row", -1, () -> x.shift(high, 0));
        due("shift", 1, () -> x.shift(high, 1));
        due("its row", 1, () -> x.where(high, 0));
        due("its tier", 0, () -> x.where(high, 1));
        due("where it was", -1, () -> x.at(0, 1));
        due("shift the other upon it", 1, () -> x.shift(low, 1));
        due("its tier", 1, () -> x.where(low, 1));
        due("moves", 4, () -> x.count(5));
        due("both stand", 2, () -> x.count(4));
        for (int far : new int[] {-1, 2, Integer.MIN_VALUE, Integer.MAX_VALUE}) {
            refused(x, "shift of box " + far, BAD_INDEX, () -> x.shift(far, 0));
            refused(x, "shift onto row " + far, BAD_INDEX, () -> x.shift(low, far));
            refused(x, "shift of none onto row " + far, BAD_INDEX, () -> x.shift(high, far));
        }
    }

    private static void shiftAsksTheRules() {
        Yard x = new Yard(5, 2, 60);
        int moved = x.box(1, 20, 5, 1, 0);
        x.put(moved, 0);
        x.reserve(1, 2);
        refused(x, "shift: reserved for another", -2, () -> x.shift(moved, 1));
        x.reserve(0, 1);
        refused(x, "shift: its own row", -1, () -> x.shift(moved, 0));
        x.put(x.box(1, 30, 1, 1, 0), 2);
        x.put(x.box(1, 15, 1, 1, 0), 2);
        refused(x, "shift: full", -3, () -> x.shift(moved, 2));
        x.put(x.box(2, 40, 1, 1, 0), 3);
        refused(x, "shift: another size", -5, () -> x.shift(moved, 3));
        x.put(x.box(1, 19, 1, 1, 0), 4);
        refused(x, "shift: heavier than the one below", -6, () -> x.shift(moved, 4));
        x.take(4);
        x.ground(4, 2);
        refused(x, "shift: dangerous ground", -8, () -> x.shift(moved, 4));
        x.ground(4, 1);
        due("shift: no rule broken", 1, () -> x.shift(moved, 4));

        Yard y = new Yard(2, 2, 40);
        int heavy = y.box(1, 21, 1, 1, 0);
        y.put(y.box(1, 20, 1, 1, 0), 0);
        y.put(heavy, 1);
        refused(y, "shift: too heavy for the ground", -4, () -> y.shift(heavy, 0));

        Yard z = yard(2, 2);
        int cooled = z.box(1, 1, 1, 1, 1);
        z.ground(0, 1);
        z.put(cooled, 0);
        refused(z, "shift: cooled without a plug", -7, () -> z.shift(cooled, 1));
    }

    // Promise 8
    private static void chooseTheBestRow() {
        Yard x = yard(4, 3);
        int box = x.box(1, 10, 5, 1, 0);
        refused(x, "choose: the least of equals", 0, () -> x.choose(box));
        x.put(x.box(1, 10, 6, 2, 0), 2);
        refused(x, "choose: 40 above 20", 2, () -> x.choose(box));
        x.reserve(3, 1);
        refused(x, "choose: 50 above 40", 3, () -> x.choose(box));
        x.put(x.box(1, 10, 6, 1, 0), 1);
        refused(x, "choose: 52 above 50", 1, () -> x.choose(box));
        x.take(2);
        x.reserve(1, 2);
        refused(x, "choose: not the one for another ship", 3, () -> x.choose(box));
        x.put(box, 3);
        refused(x, "choose for one in the yard", -1, () -> x.choose(box));
        int dangerous = x.box(1, 10, 5, 1, 2);
        refused(x, "choose: there is none", -1, () -> x.choose(dangerous));
        for (int far : new int[] {-1, 4, Integer.MIN_VALUE, Integer.MAX_VALUE}) {
            refused(x, "choose for box " + far, BAD_INDEX, () -> x.choose(far));
        }
    }

    /** Scores of 40 - 3 * 15 - 24 = -29 and 40 - 3 * 15 - 21 = -26, below 0 and below NONE, are scores as well. */
    private static void chooseBelowNought() {
        Yard x = yard(3, 4);
        x.ground(0, 2);
        for (int row = 1; row <= 2; row++) {
            x.put(x.box(1, 20, 1, 2, 0), row);
            x.put(x.box(1, 20, 1, 2, 0), row);
            x.put(x.box(1, 21 - row, 1, 2, 0), row);
        }
        int late = x.box(1, 12, 9, 1, 0);
        due("score in row 1", -29, () -> x.score(late, 1));
        due("score in row 2", -26, () -> x.score(late, 2));
        refused(x, "choose", 2, () -> x.choose(late));
        x.reserve(2, 2);
        refused(x, "choose what is left", 1, () -> x.choose(late));
    }

    // Promise 9
    private static void scoreOfARow() {
        Yard x = yard(2, 8);
        int box = x.box(1, 10, 5, 1, 0);
        refused(x, "score: empty", 20, () -> x.score(box, 0));
        x.reserve(0, 1);
        refused(x, "score: empty and reserved", 50, () -> x.score(box, 0));
        x.put(x.box(1, 40, 5, 1, 0), 0);
        refused(x, "score: at most 24 for weight, its ship, reserved", 58, () -> x.score(box, 0));
        x.reserve(0, 0);
        refused(x, "score: not reserved", 28, () -> x.score(box, 0));
        x.put(x.box(1, 18, 4, 2, 0), 0);
        refused(x, "score: one sooner, 8 lighter", 1, () -> x.score(box, 0));
        x.put(x.box(1, 17, 6, 2, 0), 0);
        refused(x, "score: one sooner, 7 lighter", 4, () -> x.score(box, 0));
        x.put(x.box(1, 11, 0, 3, 0), 0);
        refused(x, "score: two sooner, 1 lighter", 7, () -> x.score(box, 0));
        x.put(x.box(1, 10, 4, 1, 0), 0);
        refused(x, "score: three sooner, as heavy, its ship", 7, () -> x.score(box, 0));
        due("score: the other row is empty still", 20, () -> x.score(box, 1));
    }

    private static void scoreThatCantBe() {
        Yard x = new Yard(3, 1, 400);
        int box = x.box(1, 10, 5, 1, 0);
        int other = x.box(1, 10, 5, 1, 0);
        x.put(box, 0);
        refused(x, "score where it stands", BAD_STATE, () -> x.score(box, 0));
        refused(x, "score elsewhere for one in the yard", BAD_STATE, () -> x.score(box, 1));
        refused(x, "score: full", BAD_STATE, () -> x.score(other, 0));
        x.reserve(1, 2);
        refused(x, "score: reserved for another", BAD_STATE, () -> x.score(other, 1));
        x.ground(2, 2);
        refused(x, "score: dangerous ground", BAD_STATE, () -> x.score(other, 2));
        for (int far : new int[] {-1, 3, Integer.MIN_VALUE, Integer.MAX_VALUE}) {
            refused(x, "score of box " + far, BAD_INDEX, () -> x.score(far, 0));
            refused(x, "score on row " + far, BAD_INDEX, () -> x.score(other, far));
            refused(x, "score of one that stands on row " + far, BAD_INDEX, () -> x.score(box, far));
        }
    }

    // Promise 10
    private static void nightMovesAside() {
        Yard x = yard(4, 3);
        int[] days = {1, 5, 3};
        for (int day : days) {
            x.put(plain(x, 10, day), 0);
        }
        due("in the way", 2, () -> x.count(6));
        refused(x, "a night of none", 0, () -> x.night(0));
        due("a night of one", 1, () -> x.night(1));
        due("the top one is moved", 1, () -> x.where(2, 0));
        due("a night of all", 1, () -> x.night(50));
        due("box 1 is not put where it is in the way", 2, () -> x.where(1, 0));
        due("none is in the way", 0, () -> x.count(6));
        due("moves", 5, () -> x.count(5));
        refused(x, "a quiet night", 0, () -> x.night(50));
        due("undone singly", 1, () -> x.undo());
        due("it is back", 0, () -> x.where(1, 0));
        due("undone singly", 2, () -> x.undo());
        due("it is back on top", 2, () -> x.where(2, 1));
    }

    private static void nightPrefersTheMostInTheWay() {
        Yard x = yard(4, 3);
        x.put(plain(x, 10, 1), 0);
        x.put(plain(x, 10, 9), 0);
        for (int row = 1; row <= 2; row++) {
            x.put(plain(x, 10, 1), row);
            x.put(plain(x, 10, 1), row);
            x.put(plain(x, 10, 9), row);
        }
        due("one move", 1, () -> x.night(1));
        due("the most sooner ones, the least row", 3, () -> x.where(4, 0));
        due("not the later row", 2, () -> x.where(7, 0));
        due("not the one with fewer", 0, () -> x.where(1, 0));
        due("the next move", 1, () -> x.night(1));
        due("the next one with two", 3, () -> x.where(7, 0));
        due("the last move", 1, () -> x.night(2));
        due("the one with one", 3, () -> x.where(1, 0));
    }

    /** The one most in the way has nowhere to go, so that the next one is moved. */
    private static void nightKeepsToTheRules() {
        Yard x = yard(3, 3);
        x.put(x.box(1, 10, 1, 2, 0), 0);
        x.put(x.box(1, 10, 1, 2, 0), 0);
        int stuck = x.box(1, 10, 9, 2, 0);
        x.put(stuck, 0);
        x.put(plain(x, 10, 1), 1);
        int free = plain(x, 10, 2);
        x.put(free, 1);
        x.reserve(2, 1);
        due("one move", 1, () -> x.night(50));
        due("the stuck one", 0, () -> x.where(stuck, 0));
        due("the free one", 2, () -> x.where(free, 0));
        due("one is in the way still", 1, () -> x.count(6));
        x.reserve(2, 0);
        refused(x, "on the other it would be in the way", 0, () -> x.night(50));
    }

    private static void nightTakesTheBestClearRow() {
        Yard x = yard(5, 3);
        x.put(plain(x, 10, 3), 0);
        int moved = plain(x, 10, 5);
        x.put(moved, 0);
        x.put(plain(x, 20, 6), 2);
        x.put(x.box(1, 10, 5, 2, 0), 3);
        x.put(x.box(1, 10, 5, 2, 0), 4);
        due("one move", 1, () -> x.night(9));
        due("40 above 28 and 20, the least of both 40", 3, () -> x.where(moved, 0));
        x.undo();
        x.reserve(2, 1);
        due("one move", 1, () -> x.night(9));
        due("58 above 40", 2, () -> x.where(moved, 0));
        x.undo();
        x.put(x.box(1, 20, 4, 1, 0), 2);
        due("one move", 1, () -> x.night(9));
        due("not where it would be in the way", 3, () -> x.where(moved, 0));
    }

    private static void nightHasLimits() {
        Yard x = yard(2, 2);
        x.put(plain(x, 1, 1), 0);
        x.put(plain(x, 1, 2), 0);
        for (int far : new int[] {-1, 51, Integer.MIN_VALUE, Integer.MAX_VALUE}) {
            refused(x, "a night of " + far, BAD_ARGUMENT, () -> x.night(far));
        }
        due("a night of 50", 1, () -> x.night(50));
        Yard y = yard(2, 2);
        y.put(plain(y, 1, 5), 0);
        y.put(plain(y, 1, 5), 0);
        refused(y, "on the same day none is in the way", 0, () -> y.night(50));
    }

    // Promise 11
    private static void undoGoesBack() {
        Yard x = yard(3, 3);
        int a = plain(x, 9, 1);
        int b = plain(x, 9, 2);
        refused(x, "undo of nothing", -1, () -> x.undo());
        String start = x.state();
        x.put(a, 0);
        String putA = x.state();
        x.put(b, 0);
        String putB = x.state();
        x.shift(b, 2);
        String shiftedB = x.state();
        x.take(a);
        due("undo of a take", a, () -> x.undo());
        due("the state ahead of it", shiftedB, () -> x.state());
        due("undo of a shift", b, () -> x.undo());
        due("the state ahead of it", putB, () -> x.state());
        due("undo of a put", b, () -> x.undo());
        due("the state ahead of it", putA, () -> x.state());
        x.put(b, 1);
        due("undo of a move after others undone", b, () -> x.undo());
        due("the state ahead of it", putA, () -> x.state());
        due("undo of the first", a, () -> x.undo());
        due("the state ahead of it", start, () -> x.state());
        refused(x, "undo of no more", -1, () -> x.undo());
    }

    private static void undoAsksNoRule() {
        Yard x = yard(2, 1);
        int box = plain(x, 9, 1);
        int other = x.box(1, 9, 1, 2, 0);
        x.put(box, 0);
        x.shift(box, 1);
        due("ground where it stood", true, () -> x.ground(0, 2));
        due("reserved where it stood", true, () -> x.reserve(0, 2));
        due("a box told meanwhile", 2, () -> plain(x, 1, 1));
        due("undo", box, () -> x.undo());
        due("it is back", 0, () -> x.where(box, 0));
        due("the ground is not undone", 2, () -> x.count(60));
        due("what is reserved is not undone", 2, () -> x.count(80));
        due("the box told is not undone", 3, () -> x.count(3));
        due("a shift away and back again", 1, () -> x.shift(box, 1));
        refused(x, "and no way back but undo", -2, () -> x.shift(box, 0));
        due("undo", box, () -> x.undo());
        refused(x, "reserve for the other", false, () -> x.reserve(0, 2));
        due("reserve for none", true, () -> x.reserve(0, 0));
        due("put the other", 1, () -> x.put(other, 1));
    }

    private static void undoKeepsAHundred() {
        Yard x = yard(2, 1);
        int box = plain(x, 9, 1);
        x.put(box, 0);
        for (int i = 1; i < 100; i++) {
            x.shift(box, i % 2);
        }
        due("a hundred moves", 100, () -> x.count(7));
        x.shift(box, 0);
        due("a hundred are kept", 100, () -> x.count(7));
        due("one more was made", 101, () -> x.count(5));
        for (int i = 0; i < 30; i++) {
            due("undo " + i, box, () -> x.undo());
        }
        due("kept", 70, () -> x.count(7));
        due("made", 71, () -> x.count(5));
        due("where the 71st move left it", 0, () -> x.where(box, 0));
        for (int i = 0; i < 45; i++) {
            x.shift(box, 1 - i % 2);
        }
        due("kept again", 100, () -> x.count(7));
        due("made again", 116, () -> x.count(5));
        for (int i = 0; i < 100; i++) {
            due("undo again " + i, box, () -> x.undo());
        }
        refused(x, "undo of what is kept no more", -1, () -> x.undo());
        due("moves not undone", 16, () -> x.count(5));
        due("none is kept", 0, () -> x.count(7));
        due("where the 16th move left it", 1, () -> x.where(box, 0));
        x.take(box);
        due("one is kept", 1, () -> x.count(7));
        due("seventeen", 17, () -> x.count(5));
        due("undo of the take", box, () -> x.undo());
        due("it is back", 1, () -> x.where(box, 0));
    }

    // Promise 12
    private static void whereOfABox() {
        Yard x = yard(3, 4);
        int box = x.box(3, 17, 44, 8, 1);
        int[] outside = {-1, -1, 0, 0, 3, 17, 44, 8, 1};
        for (int what = 0; what < outside.length; what++) {
            int asked = what;
            due("where outside " + what, outside[what], () -> x.where(box, asked));
        }
        x.ground(2, 1);
        x.put(x.box(3, 20, 43, 1, 0), 2);
        x.put(x.box(3, 20, 50, 1, 0), 2);
        x.put(box, 2);
        x.put(x.box(3, 1, 44, 1, 0), 2);
        int[] inside = {2, 2, 1, 1, 3, 17, 44, 8, 1};
        for (int what = 0; what < inside.length; what++) {
            int asked = what;
            due("where inside " + what, inside[what], () -> x.where(box, asked));
        }
        due("above the lowest", 3, () -> x.where(1, 2));
        due("the lowest is not in the way", 0, () -> x.where(1, 3));
        due("in the way of the one right below", 1, () -> x.where(2, 3));
        due("the top one", 1, () -> x.where(3, 3));
        for (int far : new int[] {-1, 9, Integer.MIN_VALUE, Integer.MAX_VALUE}) {
            refused(x, "where of what " + far, BAD_INDEX, () -> x.where(box, far));
        }
        for (int far : new int[] {-1, 4, 59, 60, Integer.MIN_VALUE, Integer.MAX_VALUE}) {
            refused(x, "where of box " + far, BAD_INDEX, () -> x.where(far, 0));
        }
        Yard y = yard(1, 3);
        for (int day : new int[] {7, 7, 6}) {
            y.put(plain(y, 1, day), 0);
        }
        due("on the same day", 0, () -> y.where(1, 3));
        due("sooner than those below", 0, () -> y.where(2, 3));
    }

    // Promise 13
    private static void atARowAndTier() {
        Yard x = yard(2, 3);
        x.put(plain(x, 9, 1), 1);
        x.put(plain(x, 9, 1), 1);
        due("at(1, 0)", 0, () -> x.at(1, 0));
        due("at(1, 1)", 1, () -> x.at(1, 1));
        due("at(1, 2)", -1, () -> x.at(1, 2));
        due("at(0, 0)", -1, () -> x.at(0, 0));
        x.take(1);
        due("at(1, 1) when it is gone", -1, () -> x.at(1, 1));
        for (int far : new int[] {-1, 2, 15, Integer.MIN_VALUE, Integer.MAX_VALUE}) {
            refused(x, "at row " + far, BAD_INDEX, () -> x.at(far, 0));
        }
        for (int far : new int[] {-1, 3, 7, Integer.MIN_VALUE, Integer.MAX_VALUE}) {
            refused(x, "at tier " + far, BAD_INDEX, () -> x.at(1, far));
        }
    }

    // Promise 14
    private static void countOfTheYard() {
        Yard x = new Yard(3, 4, 99);
        for (int day : new int[] {1, 3, 2, 1}) {
            x.put(plain(x, 10, day), 0);
        }
        x.put(plain(x, 5, 1), 2);
        plain(x, 5, 1);
        x.take(4);
        x.undo();
        int[] want = {3, 4, 99, 6, 5, 5, 2, 5};
        for (int what = 0; what < want.length; what++) {
            int asked = what;
            due("count(" + what + ")", want[what], () -> x.count(asked));
        }
    }

    private static void countOfBoxesInTheWay() {
        Yard x = yard(2, 3);
        int first = plain(x, 5, 9);
        x.put(plain(x, 5, 8), 1);
        due("one that does not stand is not in the way", 0, () -> x.count(6));
        x.put(first, 1);
        due("the first box is in the way", 1, () -> x.count(6));
        x.put(plain(x, 5, 9), 1);
        due("the last box too", 2, () -> x.count(6));
        x.take(2);
        due("when it is gone", 1, () -> x.count(6));
    }

    private static void countOfRows() {
        Yard x = yard(16, 3);
        x.ground(15, 1);
        x.ground(3, 2);
        x.put(x.box(2, 12, 1, 7, 1), 15);
        x.put(x.box(2, 11, 1, 7, 0), 15);
        x.reserve(15, 7);
        x.reserve(0, 2);
        int[] asked = {35, 55, 75, 95, 20, 40, 60, 80, 63, 83};
        int[] want = {2, 23, 1, 7, 0, 0, 0, 2, 2, 0};
        for (int i = 0; i < asked.length; i++) {
            int what = asked[i];
            due("count(" + what + ")", want[i], () -> x.count(what));
        }
        int[] none = {-1, 8, 9, 19, 36, 39, 56, 59, 76, 79, 96, 99, 100, 115, 120,
            Integer.MIN_VALUE, Integer.MIN_VALUE + 20, Integer.MAX_VALUE};
        for (int what : none) {
            refused(x, "count(" + what + ")", -1, () -> x.count(what));
        }
        Yard y = yard(2, 2);
        for (int what : new int[] {22, 42, 62, 82}) {
            due("count(" + what + ") of two rows", -1, () -> y.count(what));
            due("count(" + (what - 1) + ") of two rows", 0, () -> y.count(what - 1));
        }
    }
}
