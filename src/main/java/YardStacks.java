import java.util.Arrays;

/**
 * A yard of stacks: where a box may stand by rules, where it stands best by a score, what is
 * reserved, what is moved and undone, and a night in which boxes in the way are moved aside.
 */
public final class YardStacks {
    public static final int NONE = -1;

    private static final int MOST_ROWS = 16;
    private static final int MOST_TIERS = 8;
    private static final int MOST_BORNE = 400;
    private static final int MOST_BOXES = 60;
    private static final int LAST_SIZE = 3;
    private static final int MOST_WEIGHT = 40;
    private static final int LAST_DAY = 1000;
    private static final int LAST_SHIP = 9;
    private static final int LAST_KIND = 2;
    private static final int LAST_GROUND = 2;
    private static final int MOST_NIGHT_MOVES = 50;
    private static final int KEPT_MOVES = 100;

    private static final int NO_SHIP = 0;
    private static final int COOLED = 1;
    private static final int DANGEROUS = 2;
    private static final int GROUND_WITH_PLUG = 1;
    private static final int GROUND_FOR_DANGEROUS = 2;

    private static final int NO_RULE = 0;
    private static final int RULE_STANDS_ALREADY = 1;
    private static final int RULE_RESERVED = 2;
    private static final int RULE_FULL = 3;
    private static final int RULE_BEARS = 4;
    private static final int RULE_SIZE = 5;
    private static final int RULE_HEAVIER = 6;
    private static final int RULE_PLUG = 7;
    private static final int RULE_DANGEROUS = 8;

    private static final int SCORE_EMPTY = 20;
    private static final int SCORE_BOXES = 40;
    private static final int SCORE_SOONER = 15;
    private static final int SCORE_SAME_SHIP = 12;
    private static final int SCORE_LIGHTER = 3;
    private static final int SCORE_LIGHTER_MOST = 24;
    private static final int SCORE_RESERVED = 30;

    /** The counts of rows come in spans of so many numbers, a span for each thing counted. */
    private static final int COUNT_SPAN = 20;
    private static final int COUNT_END = 100;

    private final int bears;
    private final Boxes boxes;
    private final Stacks stacks;
    private final Moves history;
    private final int[] grounds;
    private final int[] reservedFor;

    public YardStacks(int rows, int tiers, int bears) {
        this.bears = held(bears, MOST_BORNE);
        this.boxes = new Boxes();
        this.stacks = new Stacks(held(rows, MOST_ROWS), held(tiers, MOST_TIERS));
        this.history = new Moves();
        this.grounds = new int[MOST_ROWS];
        this.reservedFor = new int[MOST_ROWS];
    }

    public int box(int size, int weight, int leaves, int ship, int kind)
            throws IllegalArgumentException, IllegalStateException {
        boolean canBe = isWithin(size, 1, LAST_SIZE)
                && isWithin(weight, 1, MOST_WEIGHT)
                && isWithin(leaves, 0, LAST_DAY)
                && isWithin(ship, 1, LAST_SHIP)
                && isWithin(kind, 0, LAST_KIND);
        if (!canBe) {
            throw new IllegalArgumentException("no box can be like this");
        }
        if (boxes.told >= MOST_BOXES) {
            throw new IllegalStateException("there are as many boxes as there may be");
        }
        return boxes.tell(size, weight, leaves, ship, kind);
    }

    public boolean ground(int row, int kind) {
        if (!stacks.hasRow(row) || !isWithin(kind, 0, LAST_GROUND) || stacks.heights[row] > 0) {
            return false;
        }
        grounds[row] = kind;
        return true;
    }

    public boolean reserve(int row, int ship) {
        if (!stacks.hasRow(row) || !isWithin(ship, NO_SHIP, LAST_SHIP)) {
            return false;
        }
        if (ship != NO_SHIP && hasBoxOfAnotherShip(row, ship)) {
            return false;
        }
        reservedFor[row] = ship;
        return true;
    }

    public int put(int box, int row) throws IndexOutOfBoundsException {
        requireBox(box);
        requireRow(row);
        int broken = ruleBrokenByPut(box, row);
        if (broken != NO_RULE) {
            return -broken;
        }
        move(box, row);
        return 1;
    }

    public int take(int box) throws IndexOutOfBoundsException {
        requireBox(box);
        if (!stacks.isOnTop(box)) {
            return 0;
        }
        move(box, NONE);
        return 1;
    }

    public int shift(int box, int row) throws IndexOutOfBoundsException {
        requireBox(box);
        requireRow(row);
        if (!stacks.isOnTop(box)) {
            return 0;
        }
        int broken = ruleBrokenByShift(box, row);
        if (broken != NO_RULE) {
            return -broken;
        }
        move(box, row);
        return 1;
    }

    public int choose(int box) throws IndexOutOfBoundsException {
        requireBox(box);
        return stacks.stands(box) ? NONE : bestRow(box, false);
    }

    public int score(int box, int row) throws IndexOutOfBoundsException, IllegalStateException {
        requireBox(box);
        requireRow(row);
        if (ruleBrokenByPut(box, row) != NO_RULE) {
            throw new IllegalStateException("the box may not stand on this row");
        }
        return scoreOn(box, row);
    }

    public int night(int moves) throws IllegalArgumentException {
        if (!isWithin(moves, 0, MOST_NIGHT_MOVES)) {
            throw new IllegalArgumentException("no night has so many moves");
        }
        for (int made = 0; made < moves; made++) {
            if (!moveOneAside()) {
                return made;
            }
        }
        return moves;
    }

    public int undo() {
        if (history.kept == 0) {
            return NONE;
        }
        int slot = history.dropLatest();
        int box = history.boxes[slot];
        // No rule is asked: grounds and reserved rows may have changed since, the move goes back all the same.
        stacks.bring(box, history.origins[slot]);
        return box;
    }

    public int where(int box, int what) throws IndexOutOfBoundsException {
        requireBox(box);
        switch (what) {
            case 0:
                return stacks.rowOf[box];
            case 1:
                return stacks.tierOf[box];
            case 2:
                return stacks.above(box);
            case 3:
                return isInTheWay(box) ? 1 : 0;
            case 4:
                return boxes.size[box];
            case 5:
                return boxes.weight[box];
            case 6:
                return boxes.leaves[box];
            case 7:
                return boxes.ship[box];
            case 8:
                return boxes.kind[box];
            default:
                throw new IndexOutOfBoundsException("nothing of a box has this number");
        }
    }

    public int at(int row, int tier) throws IndexOutOfBoundsException {
        requireRow(row);
        if (!isWithin(tier, 0, stacks.tiers - 1)) {
            throw new IndexOutOfBoundsException("no such tier");
        }
        return stacks.cells[row][tier];
    }

    public int count(int what) {
        switch (what) {
            case 0:
                return stacks.rows;
            case 1:
                return stacks.tiers;
            case 2:
                return bears;
            case 3:
                return boxes.told;
            case 4:
                return standingBoxes();
            case 5:
                return history.made;
            case 6:
                return boxesInTheWay();
            case 7:
                return history.kept;
            default:
                return countOfRow(what);
        }
    }

    private static int held(int value, int most) {
        return Math.max(1, Math.min(value, most));
    }

    private static boolean isWithin(int value, int least, int most) {
        return value >= least && value <= most;
    }

    private void requireBox(int box) {
        if (!boxes.has(box)) {
            throw new IndexOutOfBoundsException("no such box");
        }
    }

    private void requireRow(int row) {
        if (!stacks.hasRow(row)) {
            throw new IndexOutOfBoundsException("no such row");
        }
    }

    private boolean hasBoxOfAnotherShip(int row, int ship) {
        for (int tier = 0; tier < stacks.heights[row]; tier++) {
            if (boxes.ship[stacks.cells[row][tier]] != ship) {
                return true;
            }
        }
        return false;
    }

    private int ruleBrokenByPut(int box, int row) {
        return stacks.stands(box) ? RULE_STANDS_ALREADY : ruleBrokenOnTop(box, row);
    }

    private int ruleBrokenByShift(int box, int row) {
        return stacks.rowOf[box] == row ? RULE_STANDS_ALREADY : ruleBrokenOnTop(box, row);
    }

    /** The first broken rule but for rule 1, which is not the same for a put and a shift. */
    private int ruleBrokenOnTop(int box, int row) {
        if (reservedFor[row] != NO_SHIP && reservedFor[row] != boxes.ship[box]) {
            return RULE_RESERVED;
        }
        if (stacks.heights[row] >= stacks.tiers) {
            return RULE_FULL;
        }
        if (weightOn(row) + boxes.weight[box] > bears) {
            return RULE_BEARS;
        }
        int below = stacks.top(row);
        // The top box speaks for all of its row: by this very rule they are of one size.
        if (below != NONE && boxes.size[below] != boxes.size[box]) {
            return RULE_SIZE;
        }
        if (below != NONE && boxes.weight[below] < boxes.weight[box]) {
            return RULE_HEAVIER;
        }
        return ruleBrokenByGround(boxes.kind[box], grounds[row]);
    }

    private static int ruleBrokenByGround(int kind, int ground) {
        if (kind == COOLED && ground != GROUND_WITH_PLUG) {
            return RULE_PLUG;
        }
        if ((kind == DANGEROUS) != (ground == GROUND_FOR_DANGEROUS)) {
            return RULE_DANGEROUS;
        }
        return NO_RULE;
    }

    private int weightOn(int row) {
        int weight = 0;
        for (int tier = 0; tier < stacks.heights[row]; tier++) {
            weight += boxes.weight[stacks.cells[row][tier]];
        }
        return weight;
    }

    /** How many boxes of a row, of those below a tier, leave sooner than a box. */
    private int soonerBelow(int box, int row, int tier) {
        int sooner = 0;
        for (int lower = 0; lower < tier; lower++) {
            if (boxes.leaves[stacks.cells[row][lower]] < boxes.leaves[box]) {
                sooner++;
            }
        }
        return sooner;
    }

    private boolean wouldBeInTheWay(int box, int row) {
        return soonerBelow(box, row, stacks.heights[row]) > 0;
    }

    private boolean isInTheWay(int box) {
        return stacks.stands(box) && soonerBelow(box, stacks.rowOf[box], stacks.tierOf[box]) > 0;
    }

    /** The score on a row on which the box may stand: a reserved row is thus reserved for its ship. */
    private int scoreOn(int box, int row) {
        int forReserved = reservedFor[row] == NO_SHIP ? 0 : SCORE_RESERVED;
        int top = stacks.top(row);
        if (top == NONE) {
            return SCORE_EMPTY + forReserved;
        }
        int forSooner = SCORE_SOONER * soonerBelow(box, row, stacks.heights[row]);
        int forShip = boxes.ship[top] == boxes.ship[box] ? SCORE_SAME_SHIP : 0;
        int lighterBy = boxes.weight[top] - boxes.weight[box];
        int forLighter = Math.min(SCORE_LIGHTER * lighterBy, SCORE_LIGHTER_MOST);
        return SCORE_BOXES - forSooner + forShip - forLighter + forReserved;
    }

    /** The best row, not the box's own; if it has to be clear, of those alone where the box is not in the way. */
    private int bestRow(int box, boolean clear) {
        int best = NONE;
        int bestScore = 0;
        for (int row = 0; row < stacks.rows; row++) {
            if (ruleBrokenByShift(box, row) != NO_RULE || (clear && wouldBeInTheWay(box, row))) {
                continue;
            }
            int score = scoreOn(box, row);
            // A score may lie below 0, so that the first row counts whatever its score.
            if (best == NONE || score > bestScore) {
                best = row;
                bestScore = score;
            }
        }
        return best;
    }

    /** One move of a night; false if there is none to make. */
    private boolean moveOneAside() {
        int chosen = NONE;
        int target = NONE;
        int mostSooner = 0;
        for (int row = 0; row < stacks.rows; row++) {
            int top = stacks.top(row);
            if (top == NONE) {
                continue;
            }
            int sooner = soonerBelow(top, row, stacks.tierOf[top]);
            int aside = sooner > mostSooner ? bestRow(top, true) : NONE;
            if (aside != NONE) {
                chosen = top;
                target = aside;
                mostSooner = sooner;
            }
        }
        if (chosen == NONE) {
            return false;
        }
        move(chosen, target);
        return true;
    }

    /** A move that can be undone; row NONE takes the box away. */
    private void move(int box, int row) {
        history.keep(box, stacks.rowOf[box]);
        stacks.bring(box, row);
    }

    private int standingBoxes() {
        int standing = 0;
        for (int row = 0; row < stacks.rows; row++) {
            standing += stacks.heights[row];
        }
        return standing;
    }

    private int boxesInTheWay() {
        int inTheWay = 0;
        for (int box = 0; box < boxes.told; box++) {
            if (isInTheWay(box)) {
                inTheWay++;
            }
        }
        return inTheWay;
    }

    private int countOfRow(int what) {
        if (what < COUNT_SPAN || what >= COUNT_END) {
            return NONE;
        }
        int row = what % COUNT_SPAN;
        if (!stacks.hasRow(row)) {
            return NONE;
        }
        switch (what / COUNT_SPAN) {
            case 1:
                return stacks.heights[row];
            case 2:
                return weightOn(row);
            case 3:
                return grounds[row];
            default:
                return reservedFor[row];
        }
    }

    /** What was told of the boxes; where they stand is not known here. */
    private static final class Boxes {
        final int[] size = new int[MOST_BOXES];
        final int[] weight = new int[MOST_BOXES];
        final int[] leaves = new int[MOST_BOXES];
        final int[] ship = new int[MOST_BOXES];
        final int[] kind = new int[MOST_BOXES];
        int told;

        boolean has(int box) {
            return box >= 0 && box < told;
        }

        /** Asks for a place: told is below MOST_BOXES. */
        int tell(int itsSize, int itsWeight, int itsLeaves, int itsShip, int itsKind) {
            int box = told;
            size[box] = itsSize;
            weight[box] = itsWeight;
            leaves[box] = itsLeaves;
            ship[box] = itsShip;
            kind[box] = itsKind;
            told++;
            return box;
        }
    }

    /** Which box stands where; no rule is known here. */
    private static final class Stacks {
        final int rows;
        final int tiers;
        final int[][] cells;
        final int[] heights;
        final int[] rowOf = new int[MOST_BOXES];
        final int[] tierOf = new int[MOST_BOXES];

        Stacks(int rows, int tiers) {
            this.rows = rows;
            this.tiers = tiers;
            this.cells = new int[rows][tiers];
            this.heights = new int[rows];
            for (int row = 0; row < rows; row++) {
                Arrays.fill(cells[row], NONE);
            }
            Arrays.fill(rowOf, NONE);
            Arrays.fill(tierOf, NONE);
        }

        boolean hasRow(int row) {
            return row >= 0 && row < rows;
        }

        boolean stands(int box) {
            return rowOf[box] != NONE;
        }

        int top(int row) {
            return heights[row] == 0 ? NONE : cells[row][heights[row] - 1];
        }

        int above(int box) {
            return stands(box) ? heights[rowOf[box]] - 1 - tierOf[box] : 0;
        }

        boolean isOnTop(int box) {
            return stands(box) && above(box) == 0;
        }

        /**
         * The box, on top of its row or in none, comes onto a row that is not full, or (NONE) into none.
         * Moves are asked for that by the rules; moves undone find their rows just as they left them.
         */
        void bring(int box, int row) {
            if (stands(box)) {
                lift(box);
            }
            if (row != NONE) {
                lay(box, row);
            }
        }

        private void lift(int box) {
            int row = rowOf[box];
            heights[row]--;
            cells[row][heights[row]] = NONE;
            rowOf[box] = NONE;
            tierOf[box] = NONE;
        }

        private void lay(int box, int row) {
            int tier = heights[row];
            cells[row][tier] = box;
            rowOf[box] = row;
            tierOf[box] = tier;
            heights[row]++;
        }
    }

    /** The moves made and not undone, the latest of them with what undoing them takes. */
    private static final class Moves {
        final int[] boxes = new int[KEPT_MOVES];
        final int[] origins = new int[KEPT_MOVES];
        int made;
        int kept;

        /** The slots go round, so that the newest move takes the place of the oldest one kept. */
        void keep(int box, int origin) {
            int slot = made % KEPT_MOVES;
            boxes[slot] = box;
            origins[slot] = origin;
            made++;
            kept = Math.min(kept + 1, KEPT_MOVES);
        }

        /** The slot of the latest move, which is no move any more; asks for one that is kept. */
        int dropLatest() {
            made--;
            kept--;
            return made % KEPT_MOVES;
        }
    }
}
