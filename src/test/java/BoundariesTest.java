import java.io.IOException;
import java.nio.file.Files;
import java.nio.file.Path;
import java.util.ArrayList;
import java.util.Arrays;
import java.util.HashSet;
import java.util.List;
import java.util.Set;

/**
 * The boundary cases of the document, promise by promise. Every check stands behind the sentence that it is about,
 * in the document's own words, and every boundary is looked at from both sides.
 */
public final class BoundariesTest {
    private static final String BAD_ARGUMENT = "throws.IllegalArgumentException";
    private static final String BAD_STATE = "throws.IllegalStateException";
    private static final String BAD_INDEX = "throws.IndexOutOfBoundsException";
    private static final int LEAST = Integer.MIN_VALUE;
    private static final int MOST = Integer.MAX_VALUE;
    private static final String ANY_BOX = "1 1 1 1 0";
    private static final Path DOCUMENT = Path.of("..", "shared", "DOC.md");
    private static final Set<String> SENTENCES = new HashSet<>();

    private static String document = "";
    private static String about = "";
    private static int checks = 0;
    private static int wrong = 0;

    public static void main(String[] args) throws IOException {
        if (Files.exists(DOCUMENT)) {
            document = Files.readString(DOCUMENT);
        } else {
            System.out.println("BoundariesTest: " + DOCUMENT + " is not here, so that no sentence is looked up in it");
        }
        newObject();
        box();
        ground();
        reserve();
        rules();
        put();
        take();
        shift();
        choose();
        score();
        night();
        undo();
        where();
        at();
        count();
        refusedCalls();
        System.out.println("BoundariesTest: " + SENTENCES.size() + " sentences, " + checks + " checks, " + wrong
            + " wrong");
        if (wrong != 0) {
            System.exit(1);
        }
    }

    /** The checks that follow are about these words of the document, and of this promise. */
    private static void sentence(int promise, String words) {
        about = "Promise " + promise + ", \"" + words + "\"";
        SENTENCES.add(about);
        if (document.isEmpty()) {
            return;
        }
        boolean quoted = section("## Promise " + promise + ":").contains(words)
            || section("## Terms").contains(words) || section("## What it is").contains(words);
        if (!quoted) {
            wrong++;
            System.out.println(about + ": the document does not say so");
        }
    }

    private static String section(String heading) {
        int start = document.indexOf(heading);
        int end = document.indexOf("\n## ", start);
        return start < 0 || end < 0 ? "" : document.substring(start, end);
    }

    /** A yard and the calls made on it, each written as its name and its numbers, as in "put 3 0". */
    private static final class Scene {
        private static final int MOST_CALLS = 512;
        private static final int BOXES_AT_ONCE = 20;

        private final int rows;
        private final int tiers;
        private final int bears;
        private final YardStacks yard;
        private final List<String> calls = new ArrayList<>();

        Scene(int rows, int tiers, int bears) {
            this.rows = rows;
            this.tiers = tiers;
            this.bears = bears;
            this.yard = new YardStacks(rows, tiers, bears);
        }

        /** Calls that only lead to what is looked at: none of them may be refused. */
        Scene given(String... leading) {
            for (String call : leading) {
                String answer = make(call);
                boolean number = call.startsWith("box") || call.startsWith("undo");
                boolean accepted = number ? answer.matches("[0-9]+") : answer.equals("true") || answer.equals("1");
                if (!accepted) {
                    tell(call, answer, "not to be refused");
                }
            }
            return this;
        }

        /** Boxes are told and put on a row, one upon the other. */
        Scene stand(int row, String... boxes) {
            for (String box : boxes) {
                String number = make("box " + box);
                given("put " + number + " " + row);
            }
            return this;
        }

        Scene due(String call, Object want) {
            checks++;
            String answer = make(call);
            if (!answer.equals(String.valueOf(want))) {
                tell(call, answer, "due is " + want);
            }
            return this;
        }

        /** "What throws or is refused changes nothing": the answer is due, and all is as it was. */
        Scene refused(String call, Object want) {
            String before = state();
            due(call, want);
            return unchanged(before);
        }

        Scene unchanged(String before) {
            checks++;
            String after = state();
            if (!after.equals(before)) {
                tell("the state", after, "due is, unchanged, " + before);
            }
            return this;
        }

        private void tell(String call, String answer, String want) {
            wrong++;
            System.out.println(about + ": yard " + rows + " " + tiers + " " + bears + ", calls " + calls
                + ": " + call + " answered " + answer + ", " + want);
        }

        private String make(String call) {
            calls.add(call);
            if (calls.size() > MOST_CALLS) {
                throw new AssertionError(about + ": more calls than an object is promised for");
            }
            return answer(yard, call);
        }

        /**
         * All that can be asked, and what undoing all brings back. It is asked of other objects after the same calls,
         * so that asking changes nothing and stays within the calls for which an object is promised.
         */
        String state() {
            StringBuilder all = new StringBuilder("counts");
            List<String> asked = new ArrayList<>();
            for (int what = 0; what < 100; what++) {
                asked.add("count " + what);
            }
            all.append(asks(asked)).append(" cells");
            for (int row = 0; row < yardCount(0); row++) {
                for (int tier = 0; tier < yardCount(1); tier++) {
                    asked.add("at " + row + " " + tier);
                }
            }
            all.append(asks(asked)).append(" boxes");
            int told = yardCount(3);
            for (int box = 0; box < told; box++) {
                for (int what = 0; what <= 8; what++) {
                    asked.add("where " + box + " " + what);
                }
                if (box % BOXES_AT_ONCE == BOXES_AT_ONCE - 1 || box == told - 1) {
                    all.append(asks(asked));
                }
            }
            return all.append(" undone").append(undone()).toString();
        }

        private int yardCount(int what) {
            return replayed(1).count(what);
        }

        private YardStacks replayed(int callsToCome) {
            if (calls.size() + callsToCome > MOST_CALLS) {
                throw new AssertionError(about + ": the state takes more calls than an object is promised for");
            }
            YardStacks second = new YardStacks(rows, tiers, bears);
            for (String call : calls) {
                answer(second, call);
            }
            return second;
        }

        private String asks(List<String> asked) {
            YardStacks second = replayed(asked.size());
            StringBuilder answers = new StringBuilder();
            for (String call : asked) {
                answers.append(' ').append(answer(second, call));
            }
            asked.clear();
            return answers.toString();
        }

        private String undone() {
            int kept = yardCount(7);
            YardStacks second = replayed(2 * kept + 1);
            StringBuilder answers = new StringBuilder();
            for (int i = 0; i < kept; i++) {
                String box = answer(second, "undo");
                answers.append(' ').append(box).append(':').append(answer(second, "where " + box + " 0"));
            }
            return answers.append(' ').append(answer(second, "undo")).toString();
        }

        private static String answer(YardStacks x, String call) {
            String[] words = call.split(" ");
            int[] n = new int[5];
            for (int i = 1; i < words.length; i++) {
                n[i - 1] = Integer.parseInt(words[i]);
            }
            try {
                return String.valueOf(called(x, words[0], n));
            } catch (RuntimeException e) {
                return "throws." + e.getClass().getSimpleName();
            }
        }

        private static Object called(YardStacks x, String name, int[] n) {
            switch (name) {
                case "box":
                    return x.box(n[0], n[1], n[2], n[3], n[4]);
                case "ground":
                    return x.ground(n[0], n[1]);
                case "reserve":
                    return x.reserve(n[0], n[1]);
                case "put":
                    return x.put(n[0], n[1]);
                case "take":
                    return x.take(n[0]);
                case "shift":
                    return x.shift(n[0], n[1]);
                case "choose":
                    return x.choose(n[0]);
                case "score":
                    return x.score(n[0], n[1]);
                case "night":
                    return x.night(n[0]);
                case "undo":
                    return x.undo();
                case "where":
                    return x.where(n[0], n[1]);
                case "at":
                    return x.at(n[0], n[1]);
                case "count":
                    return x.count(n[0]);
                default:
                    throw new AssertionError("no such call: " + name);
            }
        }
    }

    /** A yard whose ground bears all that can stand on it. */
    private static Scene yard(int rows, int tiers) {
        return new Scene(rows, tiers, 400);
    }

    /** A plain box of ship 1. */
    private static String plain(int weight, int leaves) {
        return "1 " + weight + " " + leaves + " 1 0";
    }

    /** A plain box of ship 1 that differs from others in its day alone. */
    private static String onDay(int leaves) {
        return plain(10, leaves);
    }

    private static String[] onDays(int... days) {
        return Arrays.stream(days).mapToObj(BoundariesTest::onDay).toArray(String[]::new);
    }

    // ---- Promise 1: a new object

    private static void newObject() {
        rowsAreHeld();
        tiersAreHeld();
        whatTheGroundBearsIsHeld();
        allIsEmptyAtFirst();
    }

    private static void rowsAreHeld() {
        sentence(1, "So many rows (1 .. 16, held to that)");
        for (int[] told : new int[][] {{LEAST, 1}, {-1, 1}, {0, 1}, {1, 1}, {2, 2}, {15, 15}, {16, 16}, {17, 16},
            {MOST, 16}}) {
            int rows = told[1];
            new Scene(told[0], 3, 50).due("count 0", rows).due("count 1", 3).due("count 2", 50)
                .given("box " + ANY_BOX)
                .refused("put 0 " + rows, BAD_INDEX).due("put 0 " + (rows - 1), 1)
                .refused("count " + (20 + rows), -1).due("count " + (20 + rows - 1), 1)
                .refused("at " + rows + " 0", BAD_INDEX).due("at " + (rows - 1) + " 0", 0);
        }
    }

    private static void tiersAreHeld() {
        sentence(1, "so many tiers (1 .. 8, held to that)");
        for (int[] told : new int[][] {{LEAST, 1}, {-1, 1}, {0, 1}, {1, 1}, {2, 2}, {7, 7}, {8, 8}, {9, 8},
            {MOST, 8}}) {
            int tiers = told[1];
            Scene x = new Scene(3, told[0], 50).due("count 0", 3).due("count 1", tiers).due("count 2", 50);
            for (int box = 0; box < tiers; box++) {
                x.given("box " + ANY_BOX).due("put " + box + " 2", 1);
            }
            x.given("box " + ANY_BOX).refused("put " + tiers + " 2", -3)
                .refused("at 2 " + tiers, BAD_INDEX).due("at 2 " + (tiers - 1), tiers - 1);
        }
    }

    private static void whatTheGroundBearsIsHeld() {
        sentence(1, "a ground that bears so much (1 .. 400, held to that)");
        for (int[] told : new int[][] {{LEAST, 1}, {-1, 1}, {0, 1}, {1, 1}, {2, 2}, {39, 39}, {40, 40}, {41, 41},
            {399, 399}, {400, 400}, {401, 400}, {MOST, 400}}) {
            int bears = told[1];
            Scene x = new Scene(3, 8, told[0]).due("count 0", 3).due("count 1", 8).due("count 2", bears);
            if (bears < 40) {
                x.given("box " + plain(bears, 1), "box " + plain(bears + 1, 1));
                x.refused("put 1 0", -4).due("put 0 0", 1);
            } else {
                x.stand(0, plain(40, 1)).given("box " + plain(1, 1)).due("put 1 0", bears == 40 ? -4 : 1);
            }
        }
    }

    private static void allIsEmptyAtFirst() {
        sentence(1, "PLAIN at first");
        Scene x = yard(16, 8);
        for (int what = 3; what <= 7; what++) {
            x.due("count " + what, 0);
        }
        for (int row = 0; row < 16; row++) {
            x.due("count " + (20 + row), 0).due("count " + (40 + row), 0);
            x.due("count " + (60 + row), 0).due("count " + (80 + row), 0);
            for (int tier = 0; tier < 8; tier++) {
                x.due("at " + row + " " + tier, -1);
            }
        }
    }

    // ---- Promise 2: box

    private static void box() {
        boxThatCanBe();
        boxThatCantBe();
        sixtyBoxesAtMost();
        boxThrowsTheFirst();
    }

    private static final String[] TRAITS = {"a SIZE (1 .. 3)", "a WEIGHT (1 .. 40)",
        "a day on which they LEAVE (0 .. 1000)", "a SHIP (1 .. 9)", "a KIND (0 plain, 1 cooled, 2 dangerous)"};
    private static final int[] LEAST_OF_TRAIT = {1, 1, 0, 1, 0};
    private static final int[] MOST_OF_TRAIT = {3, 40, 1000, 9, 2};

    private static String boxWith(int trait, int value) {
        int[] box = {1, 1, 1, 1, 0};
        box[trait] = value;
        return "box " + box[0] + " " + box[1] + " " + box[2] + " " + box[3] + " " + box[4];
    }

    private static void boxThatCanBe() {
        for (int trait = 0; trait < TRAITS.length; trait++) {
            sentence(2, TRAITS[trait]);
            int least = LEAST_OF_TRAIT[trait];
            int most = MOST_OF_TRAIT[trait];
            yard(2, 2).due(boxWith(trait, least), 0).due(boxWith(trait, most), 1)
                .due("where 0 " + (4 + trait), least).due("where 1 " + (4 + trait), most)
                .refused(boxWith(trait, least - 1), BAD_ARGUMENT).refused(boxWith(trait, most + 1), BAD_ARGUMENT);
        }
    }

    private static void boxThatCantBe() {
        sentence(2, "IllegalArgumentException if its size, weight, day, ship or kind can't be");
        for (int trait = 0; trait < TRAITS.length; trait++) {
            Scene x = yard(2, 2);
            for (int cant : new int[] {LEAST, -2, -1, 1001, 2000, MOST}) {
                x.refused(boxWith(trait, cant), BAD_ARGUMENT);
            }
            x.due("box " + ANY_BOX, 0);
        }
        yard(1, 1).refused("box 0 0 -1 0 -1", BAD_ARGUMENT).refused("box 4 41 1001 10 3", BAD_ARGUMENT)
            .refused("box 4 0 1 1 0", BAD_ARGUMENT).refused("box 1 1 -1 10 0", BAD_ARGUMENT)
            .due("box 3 40 1000 9 2", 0);
    }

    private static Scene sixtyBoxes() {
        Scene x = yard(2, 2);
        for (int box = 0; box < 59; box++) {
            x.due("box " + ANY_BOX, box);
        }
        return x.due("count 3", 59).refused("where 59 0", BAD_INDEX)
            .due("box 3 40 1000 9 2", 59).due("count 3", 60).due("where 59 6", 1000);
    }

    private static void sixtyBoxesAtMost() {
        sentence(2, "BOXES 0, 1, .. (60 at most)");
        Scene x = sixtyBoxes();
        sentence(2, "IllegalStateException if there are 60");
        x.refused("box " + ANY_BOX, BAD_STATE).refused("box 3 40 1000 9 2", BAD_STATE)
            .refused("where 60 0", BAD_INDEX)
            .given("put 0 0", "take 0").refused("box " + ANY_BOX, BAD_STATE)
            .given("undo", "undo").refused("box " + ANY_BOX, BAD_STATE);
    }

    private static void boxThrowsTheFirst() {
        sentence(2, "Of several exceptions the one told first is thrown");
        Scene x = sixtyBoxes();
        for (int trait = 0; trait < TRAITS.length; trait++) {
            x.refused(boxWith(trait, LEAST_OF_TRAIT[trait] - 1), BAD_ARGUMENT);
            x.refused(boxWith(trait, MOST_OF_TRAIT[trait] + 1), BAD_ARGUMENT);
        }
        x.refused("box " + ANY_BOX, BAD_STATE);
    }

    // ---- Promise 3: ground

    private static void ground() {
        groundIsTold();
        groundThatIsNot();
        groundBelowBoxes();
    }

    private static void groundIsTold() {
        sentence(3, "PLAIN at first, or with a PLUG, or apart for DANGEROUS boxes (0, 1, 2)");
        Scene x = yard(3, 2).due("count 62", 0).refused("ground 2 3", false).refused("ground 2 -1", false);
        sentence(3, "A row's GROUND: true");
        for (int ground : new int[] {0, 1, 2, 2, 1, 0}) {
            x.due("ground 2 " + ground, true).due("count 62", ground).due("count 61", 0).due("count 60", 0);
        }
    }

    private static void groundThatIsNot() {
        sentence(3, "false if there is no such row or ground");
        Scene x = yard(3, 2).due("ground 0 2", true).due("ground 2 1", true);
        for (int row : new int[] {LEAST, -1, 3, 15, 16, MOST}) {
            x.refused("ground " + row + " 0", false);
        }
        for (int ground : new int[] {LEAST, -1, 3, MOST}) {
            x.refused("ground 0 " + ground, false).refused("ground 2 " + ground, false);
        }
        yard(16, 1).due("ground 15 1", true).refused("ground 16 1", false);
    }

    private static void groundBelowBoxes() {
        sentence(3, "or boxes stand there");
        Scene x = yard(2, 2).given("box " + ANY_BOX).due("ground 0 1", true).given("put 0 0");
        for (int ground = 0; ground <= 2; ground++) {
            x.refused("ground 0 " + ground, false);
        }
        x.due("ground 1 2", true).given("take 0").due("ground 0 0", true);
        x.given("undo").refused("ground 0 1", false).given("undo").due("ground 0 1", true);
        x.stand(0, ANY_BOX, ANY_BOX).refused("ground 0 1", false).given("take 2").refused("ground 0 1", false);
        x.given("take 1").due("ground 0 2", true);
    }

    // ---- Promise 4: reserve

    private static void reserve() {
        reservedRow();
        reservedRowThatIsNot();
        reservedRowWithBoxes();
        reservedForNone();
    }

    private static void reservedRow() {
        sentence(4, "It may be RESERVED for a SHIP (1 .. 9)");
        yard(1, 1).due("count 80", 0).due("reserve 0 1", true).due("reserve 0 9", true).refused("reserve 0 10", false)
            .refused("reserve 0 -1", false).due("count 80", 9);
        sentence(4, "A row is RESERVED for a ship, or (0) for none: true");
        Scene x = yard(3, 2);
        for (int ship : new int[] {1, 9, 5, 0, 0}) {
            x.due("reserve 2 " + ship, true).due("count 82", ship).due("count 81", 0).due("count 80", 0);
        }
    }

    private static void reservedRowThatIsNot() {
        sentence(4, "false if there is no such row or ship");
        Scene x = yard(3, 2).due("reserve 0 3", true);
        for (int row : new int[] {LEAST, -1, 3, 15, 16, MOST}) {
            x.refused("reserve " + row + " 1", false).refused("reserve " + row + " 0", false);
        }
        for (int ship : new int[] {LEAST, -1, 10, MOST}) {
            x.refused("reserve 0 " + ship, false).refused("reserve 1 " + ship, false);
        }
        yard(16, 1).due("reserve 15 9", true).refused("reserve 16 9", false);
    }

    private static void reservedRowWithBoxes() {
        sentence(4, "or a box of another ship stands there");
        Scene x = yard(2, 3).stand(0, "1 9 1 4 0");
        x.due("reserve 0 4", true).refused("reserve 0 3", false).refused("reserve 0 5", false);
        x.due("reserve 1 5", true).stand(0, "1 9 1 4 0").due("reserve 0 4", true);
        x.given("reserve 0 0").stand(0, "1 9 1 5 0");
        x.refused("reserve 0 4", false).refused("reserve 0 5", false).refused("reserve 0 9", false);
        x.given("take 2").due("reserve 0 4", true).given("take 1", "take 0").due("reserve 0 5", true);
    }

    private static void reservedForNone() {
        sentence(4, "(for 0: never false for that)");
        Scene x = yard(2, 3).stand(0, "1 9 1 4 0", "1 9 1 5 0");
        x.due("reserve 0 0", true).refused("reserve 0 4", false).due("reserve 0 0", true).due("count 80", 0);
        // Undo brings a box back onto a row that was reserved for another ship meanwhile.
        Scene back = yard(1, 1).stand(0, "1 9 1 4 0").given("take 0", "reserve 0 5", "undo").due("at 0 0", 0);
        back.due("count 80", 5).refused("reserve 0 5", false).due("reserve 0 0", true).due("count 80", 0);
        back.due("reserve 0 4", true);
    }

    // ---- Promises 5, 7, 8, 9, 10: the rules

    private static void rules() {
        rulesInTheirOrder();
        rule1();
        rule2();
        rule3();
        rule4();
        rule5();
        rule6();
        rule7();
        rule8();
    }

    /** Every set of the rules 2 to 8 broken at once, for all calls that look at the rules. */
    private static void rulesInTheirOrder() {
        for (int set = 0; set < 1 << 7; set++) {
            boolean[] broken = new boolean[9];
            int first = 0;
            for (int rule = 8; rule >= 2; rule--) {
                broken[rule] = (set >> (rule - 2) & 1) == 1;
                first = broken[rule] ? rule : first;
            }
            Scene x = boxThatBreaks(broken);
            if (first == 0) {
                noRuleIsBroken(x);
            } else {
                rulesAreBroken(x, first);
            }
        }
    }

    /**
     * Box 3 and row 0, on which it breaks these rules and no other. On row 1 it breaks none, but box 2 there
     * leaves sooner, so that a night would bring it onto row 0 if it may.
     */
    private static Scene boxThatBreaks(boolean[] broken) {
        int weight = broken[6] ? 21 : 20;
        int kind = broken[7] ? 1 : broken[8] ? 2 : 0;
        int ground = broken[7] && broken[8] ? 2 : 0;
        String size = broken[5] ? "2 " : "1 ";
        String shipAndKind = broken[2] ? " 2 " + kind : " 1 " + kind;
        Scene x = new Scene(2, broken[3] ? 2 : 3, 20 + 20 + weight - (broken[4] ? 1 : 0));
        x.given("ground 0 " + ground, "ground 1 " + kind, "reserve 0 1");
        x.stand(0, "1 20 5 1 " + ground, "1 20 5 1 " + ground);
        x.stand(1, size + weight + " 4" + shipAndKind);
        return x.given("box " + size + weight + " 5" + shipAndKind);
    }

    private static void noRuleIsBroken(Scene x) {
        sentence(5, "A box is put on a row: 1");
        x.due("put 3 0", 1).due("at 0 2", 3).given("undo");
        sentence(9, "THE SCORE of a box on a row on which it may stand");
        x.due("score 3 0", 40 + 12 + 30).due("score 3 1", 40 - 15 + 12);
        sentence(8, "THE BEST row for a box that does not stand in the yard");
        x.due("choose 3", 0).given("put 3 1");
        sentence(7, "A box is shifted onto another row: 1");
        x.due("shift 3 0", 1).due("at 0 2", 3).due("at 1 1", -1).given("undo");
        sentence(10, "on which they may stand and are not in the way");
        x.due("night 50", 1).due("where 3 0", 0);
    }

    private static void rulesAreBroken(Scene x, int first) {
        sentence(5, "below 0 if it may not stand there: the first RULE that is broken");
        x.refused("put 3 0", -first);
        sentence(9, "IllegalStateException if it may not stand there");
        x.refused("score 3 0", BAD_STATE);
        sentence(8, "THE BEST row for a box that does not stand in the yard");
        x.refused("choose 3", 1).given("put 3 1");
        sentence(7, "below 0 if it may not stand there");
        x.refused("shift 3 0", -first);
        sentence(10, "on which they may stand and are not in the way");
        x.refused("night 50", 0);
        sentence(5, "looked at in this order: 1 it stands in the yard already");
        x.refused("put 3 0", -1).refused("put 3 1", -1);
        sentence(7, "looked at in this order: 1 it stands in the yard already (for a shift: on that row)");
        x.refused("shift 3 1", -1);
    }

    /** A box that is put, and one that is shifted from row 1, come onto row 0 by the same rules; then it is gone. */
    private static void onRow0(Scene x, int box, int want) {
        x.due("put " + box + " 0", want);
        if (want == 1) {
            x.given("undo");
        }
        x.given("put " + box + " 1").due("shift " + box + " 0", want);
        if (want == 1) {
            x.given("undo");
        }
        x.given("undo");
    }

    private static void rule1() {
        sentence(5, "1 it stands in the yard already (for a shift: on that row)");
        Scene x = yard(3, 3).stand(0, onDay(1)).refused("put 0 0", -1).refused("put 0 1", -1).refused("put 0 2", -1);
        x.refused("shift 0 0", -1).due("shift 0 2", 1).refused("shift 0 2", -1).due("shift 0 0", 1);
        x.due("take 0", 1).due("put 0 1", 1).given("undo", "undo").refused("put 0 1", -1);
    }

    private static void rule2() {
        sentence(5, "2 the row is RESERVED for another ship");
        Scene x = yard(2, 3).given("box 1 10 1 4 0");
        for (int ship = 0; ship <= 9; ship++) {
            x.given("reserve 0 " + ship);
            onRow0(x, 0, ship == 0 || ship == 4 ? 1 : -2);
        }
    }

    private static void rule3() {
        sentence(5, "TIERS high at most");
        yard(1, 1).stand(0, onDay(1)).given("box " + onDay(1)).refused("put 1 0", -3).due("count 20", 1);
        yard(1, 2).stand(0, onDay(1)).given("box " + onDay(1)).due("put 1 0", 1).due("count 20", 2);

        sentence(5, "3 it is full");
        for (int tiers = 1; tiers <= 8; tiers++) {
            Scene x = yard(2, tiers).given("box " + onDay(1));
            for (int height = 0; height < tiers; height++) {
                onRow0(x, 0, 1);
                x.stand(0, onDay(1));
            }
            onRow0(x, 0, -3);
            x.given("take " + tiers);
            onRow0(x, 0, 1);
        }
    }

    private static void rule4() {
        sentence(5, "4 its boxes and this one weigh more than the ground bears");
        Scene x = new Scene(2, 8, 60).given("box " + plain(10, 1), "box " + plain(11, 1), "box " + plain(9, 1));
        x.stand(0, plain(30, 1), plain(20, 1));
        onRow0(x, 0, 1);
        onRow0(x, 1, -4);
        onRow0(x, 2, 1);
        Scene most = new Scene(1, 8, 320);
        Scene less = new Scene(1, 8, 319);
        for (int tier = 0; tier < 7; tier++) {
            most.stand(0, plain(40, 1));
            less.stand(0, plain(40, 1));
        }
        most.given("box " + plain(40, 1)).due("put 7 0", 1).due("count 40", 320);
        less.given("box " + plain(40, 1), "box " + plain(39, 1)).refused("put 7 0", -4).due("put 8 0", 1);
    }

    private static void rule5() {
        sentence(5, "5 a box there has another size");
        for (int there = 1; there <= 3; there++) {
            Scene x = yard(2, 4).given("box 1 10 1 1 0", "box 2 10 1 1 0", "box 3 10 1 1 0");
            onRow0(x, there - 1, 1);
            x.stand(0, there + " 10 1 1 0", there + " 10 1 1 0");
            for (int size = 1; size <= 3; size++) {
                onRow0(x, size - 1, size == there ? 1 : -5);
            }
        }
    }

    private static void rule6() {
        sentence(5, "6 it weighs more than the one below it");
        Scene x = yard(2, 3).given("box " + plain(19, 1), "box " + plain(20, 1), "box " + plain(21, 1),
            "box " + plain(40, 1));
        onRow0(x, 3, 1);
        x.stand(0, plain(40, 1));
        onRow0(x, 3, 1);
        x.stand(0, plain(20, 1));
        onRow0(x, 0, 1);
        onRow0(x, 1, 1);
        onRow0(x, 2, -6);
    }

    private static void rule7() {
        sentence(5, "7 it is cooled and the ground has no PLUG");
        int[] cooled = {-7, 1, -7};
        for (int ground = 0; ground <= 2; ground++) {
            Scene x = yard(2, 2).given("ground 0 " + ground, "ground 1 1", "box 1 10 1 1 1");
            onRow0(x, 0, cooled[ground]);
        }
    }

    private static void rule8() {
        sentence(5, "8 it is dangerous and the ground is not for that");
        int[] dangerous = {-8, -8, 1};
        for (int ground = 0; ground <= 2; ground++) {
            Scene x = yard(2, 2).given("ground 0 " + ground, "ground 1 2", "box 1 10 1 1 2");
            onRow0(x, 0, dangerous[ground]);
        }

        sentence(5, "or the other way about (a ground for DANGEROUS boxes takes no other)");
        int[] plain = {1, 1, -8};
        for (int ground = 0; ground <= 2; ground++) {
            Scene x = yard(2, 2).given("ground 0 " + ground, "box 1 10 1 1 0");
            onRow0(x, 0, plain[ground]);
        }
    }

    // ---- Promise 5: put

    private static void put() {
        putWithoutBoxOrRow();
        boxStandsInOneRow();
    }

    private static void putWithoutBoxOrRow() {
        sentence(5, "IndexOutOfBoundsException if there is no such box or row");
        yard(2, 2).refused("put 0 0", BAD_INDEX).given("box " + ANY_BOX).due("put 0 0", 1);
        Scene x = yard(2, 1).stand(0, ANY_BOX).given("box " + ANY_BOX);
        for (int box : new int[] {LEAST, -1, 2, 59, 60, MOST}) {
            x.refused("put " + box + " 1", BAD_INDEX).refused("put " + box + " 2", BAD_INDEX);
        }
        for (int row : new int[] {LEAST, -1, 2, 15, 16, MOST}) {
            x.refused("put 0 " + row, BAD_INDEX).refused("put 1 " + row, BAD_INDEX);
        }
        x.refused("put 1 0", -3).due("put 1 1", 1);
    }

    private static void boxStandsInOneRow() {
        sentence(5, "A box stands in one row, or in none");
        Scene x = yard(2, 1).stand(0, ANY_BOX).given("box " + ANY_BOX).due("where 1 0", -1).due("count 4", 1);
        x.due("put 1 1", 1).due("where 1 0", 1).due("at 1 0", 1).due("at 0 0", 0).due("count 4", 2);
        x.given("take 1").due("where 1 0", -1).due("at 1 0", -1).due("count 4", 1);
        x.given("shift 0 1").due("at 0 0", -1).due("at 1 0", 0).due("count 4", 1);
    }

    // ---- Promise 6: take

    private static void take() {
        takeFromTheTop();
        takeWithoutBox();
    }

    private static void takeFromTheTop() {
        sentence(6, "A box is taken away: 1; 0 if it is not on top of a row");
        Scene x = yard(2, 3).given("box " + onDay(1)).refused("take 0", 0).given("put 0 0").due("take 0", 1);
        x.refused("take 0", 0).given("put 0 1").stand(1, onDay(1), onDay(1));
        x.refused("take 0", 0).refused("take 1", 0).due("take 2", 1).refused("take 2", 0).refused("take 0", 0);
        x.due("take 1", 1).due("take 0", 1).due("count 4", 0);
        x.given("undo", "undo").refused("take 0", 0).due("take 1", 1);
    }

    private static void takeWithoutBox() {
        sentence(6, "IndexOutOfBoundsException if there is no such box");
        yard(1, 1).refused("take 0", BAD_INDEX).refused("take -1", BAD_INDEX);
        Scene x = yard(1, 2).stand(0, onDay(1), onDay(1));
        for (int box : new int[] {LEAST, -1, 2, 59, 60, MOST}) {
            x.refused("take " + box, BAD_INDEX);
        }
        x.refused("take 0", 0).due("take 1", 1);
    }

    // ---- Promise 7: shift

    private static void shift() {
        shiftFromTheTop();
        shiftWithoutBoxOrRow();
    }

    private static void shiftFromTheTop() {
        sentence(7, "0 if it is not on top of a row");
        Scene x = yard(3, 2).given("box " + onDay(1)).refused("shift 0 0", 0).refused("shift 0 1", 0);
        x.given("put 0 0").due("shift 0 1", 1).stand(1, onDay(1));
        x.refused("shift 0 0", 0).refused("shift 0 1", 0).due("shift 1 0", 1).due("shift 0 2", 1);
        x.given("take 0").refused("shift 0 2", 0).given("reserve 2 9").refused("shift 0 2", 0);
        x.given("undo").due("at 2 0", 0).stand(0, onDay(1)).refused("shift 1 2", 0).refused("shift 2 2", -2);
        x.refused("shift 0 0", -3).given("take 2").due("shift 0 0", 1);
    }

    private static void shiftWithoutBoxOrRow() {
        sentence(7, "IndexOutOfBoundsException if there is no such box or row");
        yard(2, 2).refused("shift 0 0", BAD_INDEX);
        Scene x = yard(2, 2).stand(0, onDay(1), onDay(1)).given("box " + onDay(1));
        for (int box : new int[] {LEAST, -1, 3, 59, 60, MOST}) {
            x.refused("shift " + box + " 1", BAD_INDEX).refused("shift " + box + " 2", BAD_INDEX);
        }
        for (int row : new int[] {LEAST, -1, 2, 15, 16, MOST}) {
            x.refused("shift 0 " + row, BAD_INDEX).refused("shift 1 " + row, BAD_INDEX);
            x.refused("shift 2 " + row, BAD_INDEX);
        }
        x.due("shift 1 1", 1);
    }

    // ---- Promise 8: choose

    private static void choose() {
        chooseTheGreatestScore();
        chooseTheLeastRow();
        chooseNone();
        chooseWithoutBox();
    }

    private static void chooseTheGreatestScore() {
        sentence(8, "THE BEST row: with the greatest score");
        // 7 units lighter is 40 - 21 = 19, one below the 20 of an empty row; 6 units lighter is 22.
        for (int row = 0; row <= 1; row++) {
            yard(2, 2).stand(row, "1 17 5 2 0").given("box 1 10 5 1 0").refused("choose 1", 1 - row);
            yard(2, 2).stand(row, "1 16 5 2 0").given("box 1 10 5 1 0").refused("choose 1", row);
        }
        yard(4, 2).stand(1, "1 10 5 2 0").stand(3, "1 10 5 1 0").given("box 1 10 5 1 0").refused("choose 2", 3);
    }

    private static void chooseTheLeastRow() {
        sentence(8, "of such the least");
        Scene x = yard(16, 1).given("box " + onDay(1));
        for (int row = 0; row < 16; row++) {
            x.refused("choose 0", row).given("ground " + row + " 2");
        }
        x.refused("choose 0", -1).given("ground 15 0").due("choose 0", 15);
        yard(4, 2).stand(1, "1 10 5 2 0").stand(3, "1 10 5 2 0").given("box 1 10 5 1 0").refused("choose 2", 1);
        // The least score there is, below 0 and below NONE, is a score as well.
        Scene below = yard(2, 8);
        for (int tier = 0; tier < 7; tier++) {
            below.stand(0, "1 20 1 2 0").stand(1, "1 20 1 2 0");
        }
        below.given("box 1 11 2 1 0").due("score 14 0", -89).due("score 14 1", -89).refused("choose 14", 0);
        below.given("reserve 0 2").refused("choose 14", 1);
    }

    private static void chooseNone() {
        sentence(8, "NONE if there is none, or it does");
        Scene x = yard(2, 1).given("box " + onDay(1), "box " + onDay(1), "box " + onDay(1));
        x.due("choose 0", 0).given("put 0 0").refused("choose 0", -1).due("choose 1", 1).given("put 1 1");
        x.refused("choose 2", -1).refused("choose 1", -1).given("take 0").due("choose 2", 0).due("choose 0", 0);
    }

    private static void chooseWithoutBox() {
        sentence(8, "IndexOutOfBoundsException if there is no such box");
        yard(1, 1).refused("choose 0", BAD_INDEX).given("box " + ANY_BOX).due("choose 0", 0);
        Scene x = yard(2, 1).given("box " + onDay(1), "box " + onDay(1), "box " + onDay(1));
        for (int box : new int[] {LEAST, -1, 3, 59, 60, MOST}) {
            x.refused("choose " + box, BAD_INDEX);
        }
        x.due("choose 2", 0);
    }

    // ---- Promise 9: score

    private static void score() {
        scoreOfAnEmptyRow();
        scoreOfBoxesThatLeaveSooner();
        scoreOfTheSameShip();
        scoreOfALighterBox();
        scoreOfAReservedRow();
        scoreWhereItMayNotStand();
        scoreWithoutBoxOrRow();
        scoreThrowsTheFirst();
    }

    /** The score on row 0, with boxes there, of a box of weight 10 and ship 1 that leaves on day 5. */
    private static Scene scored(int want, String... there) {
        Scene x = yard(1, 8).stand(0, there).given("box " + plain(10, 5));
        return x.refused("score " + there.length + " 0", want);
    }

    private static void scoreOfAnEmptyRow() {
        sentence(9, "20 if the row is empty");
        scored(20).due("put 0 0", 1).due("take 0", 1).due("score 0 0", 20);
        scored(40, "1 10 5 2 0").given("take 0").due("score 1 0", 20);
    }

    private static void scoreOfBoxesThatLeaveSooner() {
        sentence(9, "else 40 less 15 for each box there that leaves sooner than it");
        scored(40, "1 10 6 2 0");
        scored(40, "1 10 5 2 0");
        scored(25, "1 10 4 2 0");
        scored(25, "1 10 0 2 0");
        scored(25, "1 10 4 2 0", "1 10 5 2 0");
        scored(25, "1 10 1000 2 0", "1 10 4 2 0");
        scored(10, "1 10 4 2 0", "1 10 9 2 0", "1 10 3 2 0", "1 10 5 2 0");
        String sooner = "1 10 4 2 0";
        scored(40 - 7 * 15, sooner, sooner, sooner, sooner, sooner, sooner, sooner);
        yard(1, 2).stand(0, "1 10 999 2 0").given("box 1 10 1000 1 0").due("score 1 0", 25);
        yard(1, 2).stand(0, "1 10 0 2 0").given("box 1 10 0 1 0").due("score 1 0", 40);
        yard(1, 2).stand(0, "1 10 0 2 0").given("box 1 10 1 1 0").due("score 1 0", 25);
    }

    private static void scoreOfTheSameShip() {
        sentence(9, "12 more if the top one is of its ship");
        scored(52, "1 10 5 1 0");
        scored(40, "1 10 5 2 0");
        scored(40, "1 10 5 1 0", "1 10 5 2 0");
        scored(52, "1 10 5 2 0", "1 10 5 1 0");
        scored(52, "1 10 5 1 0", "1 10 5 1 0");
    }

    private static void scoreOfALighterBox() {
        sentence(9, "less 3 for each unit of weight by which it is lighter than the top one, at most 24 less");
        scored(40, "1 10 5 2 0");
        scored(37, "1 11 5 2 0");
        scored(22, "1 16 5 2 0");
        scored(19, "1 17 5 2 0");
        scored(16, "1 18 5 2 0");
        scored(16, "1 19 5 2 0");
        scored(16, "1 40 5 2 0");
        scored(37, "1 40 5 2 0", "1 11 5 2 0");
        yard(1, 2).stand(0, "1 40 5 2 0").given("box 1 1 5 1 0").due("score 1 0", 16);
    }

    private static void scoreOfAReservedRow() {
        sentence(9, "30 more if the row is RESERVED (for its ship, that is)");
        scored(20).given("reserve 0 1").due("score 0 0", 50).given("reserve 0 0").due("score 0 0", 20);
        scored(52, "1 10 5 1 0").given("reserve 0 1").due("score 1 0", 82).given("reserve 0 0").due("score 1 0", 52);
        scored(20).given("reserve 0 2").refused("score 0 0", BAD_STATE);
        Scene back = yard(1, 2).stand(0, "1 10 5 2 0").given("take 0", "reserve 0 1", "undo", "box 1 10 5 1 0");
        back.due("score 1 0", 70);
    }

    private static void scoreWhereItMayNotStand() {
        sentence(9, "IllegalStateException if it may not stand there");
        Scene x = yard(3, 1).given("box " + onDay(1), "box " + onDay(1)).due("score 0 0", 20).given("put 0 0");
        x.refused("score 0 0", BAD_STATE).refused("score 0 1", BAD_STATE).refused("score 1 0", BAD_STATE);
        x.due("score 1 1", 20).given("take 0").due("score 0 1", 20).due("score 1 0", 20);
    }

    private static void scoreWithoutBoxOrRow() {
        sentence(9, "IndexOutOfBoundsException if there is no such box or row");
        yard(1, 1).refused("score 0 0", BAD_INDEX).given("box " + ANY_BOX).due("score 0 0", 20);
        Scene x = yard(3, 1).given("box " + onDay(1), "box " + onDay(1));
        for (int box : new int[] {LEAST, -1, 2, 59, 60, MOST}) {
            x.refused("score " + box + " 1", BAD_INDEX);
        }
        for (int row : new int[] {LEAST, -1, 3, 15, 16, MOST}) {
            x.refused("score 1 " + row, BAD_INDEX);
        }
        x.due("score 1 2", 20);
    }

    private static void scoreThrowsTheFirst() {
        sentence(9, "Of several exceptions the one told first is thrown");
        Scene x = yard(3, 1).stand(0, onDay(1)).given("box " + onDay(1)).refused("score 0 2", BAD_STATE);
        x.refused("score 0 3", BAD_INDEX).refused("score 0 -1", BAD_INDEX).refused("score 2 0", BAD_INDEX);
        x.refused("score -1 -1", BAD_INDEX).refused("score 2 3", BAD_INDEX).refused("score 1 0", BAD_STATE);
    }

    // ---- Promise 10: night

    private static void night() {
        nightOfSoManyMoves();
        nightEnds();
        nightOfFiftyMoves();
        nightGoesOn();
        nightAndTheSameDay();
        nightMovesTopBoxes();
        nightMovesTheMostInTheWay();
        nightMovesTheLeastRows();
        nightLeavesWhatHasNoRow();
        nightPutsNoneInTheWay();
        nightTakesTheBestRow();
    }

    private static void nightOfSoManyMoves() {
        sentence(10, "IllegalArgumentException if it is not 0 .. 50");
        Scene x = yard(4, 2).stand(0, onDays(1, 9)).stand(1, onDays(1, 9));
        for (int moves : new int[] {LEAST, -50, -1, 51, 100, MOST}) {
            x.refused("night " + moves, BAD_ARGUMENT);
        }
        x.refused("night 0", 0).due("night 50", 2);
        yard(1, 1).due("night 0", 0).due("night 50", 0).refused("night -1", BAD_ARGUMENT)
            .refused("night 51", BAD_ARGUMENT);
    }

    private static void nightEnds() {
        sentence(10, "It ends when there is none, or so many moves are made");
        Scene x = yard(4, 2).stand(0, onDays(1, 9)).stand(1, onDays(1, 9));
        x.refused("night 0", 0).due("night 1", 1).due("count 6", 1).due("count 5", 5).due("night 1", 1);
        x.due("count 6", 0).due("count 5", 6).refused("night 1", 0).refused("night 50", 0);
        for (int moves : new int[] {2, 3, 49, 50}) {
            x.given("undo", "undo").due("count 6", 2).due("night " + moves, 2).due("count 6", 0).due("count 5", 6);
        }
    }

    /** Eight rows with 52 boxes that are in the way, and eight empty rows for them. */
    private static Scene fullYard() {
        Scene x = yard(16, 8);
        for (int row = 0; row < 8; row++) {
            x.stand(row, plain(1, 1));
            for (int tier = 1; tier < (row < 4 ? 8 : 7); tier++) {
                x.stand(row, plain(1, 9));
            }
        }
        return x.due("count 3", 60).due("count 4", 60).due("count 6", 52);
    }

    private static void nightOfFiftyMoves() {
        sentence(10, "A NIGHT: how many moves were made");
        fullYard().due("night 49", 49).due("count 6", 3).due("count 5", 109).due("night 50", 3).due("count 6", 0);
        Scene x = fullYard().due("night 50", 50).due("count 6", 2).due("count 5", 110).due("count 7", 100);
        x.due("night 50", 2).due("count 6", 0).due("count 5", 112).due("count 7", 100).refused("night 50", 0);

        sentence(10, "the latest 100 are kept");
        Scene undone = fullYard().due("night 50", 50);
        for (int i = 0; i < 100; i++) {
            undone.given("undo");
        }
        undone.due("count 5", 10).due("count 7", 0).due("count 4", 10).refused("undo", -1);
    }

    private static void nightGoesOn() {
        sentence(10, "again and again");
        Scene x = yard(3, 4).stand(0, onDays(1, 4, 3, 2)).due("count 6", 3).due("night 50", 2);
        x.due("where 3 0", 1).due("where 2 0", 2).due("where 1 0", 0).due("count 6", 1).refused("night 50", 0);
        // The upper one of row 0 comes first, but has a place only when the one of row 1 is gone.
        Scene later = yard(3, 3).stand(0, onDays(1, 1, 9)).stand(1, onDays(9, 9)).stand(1, "1 10 10 2 0");
        later.given("reserve 2 2").due("night 1", 1).due("where 5 0", 2).due("where 2 0", 0);
        later.due("night 50", 1).due("where 2 0", 1).refused("night 50", 0);
        later.given("undo", "undo").due("night 50", 2).due("where 5 0", 2).due("where 2 0", 1);
    }

    private static void nightAndTheSameDay() {
        sentence(10, "A box is IN THE WAY if one below it leaves sooner");
        for (int day : new int[] {0, 4, 5}) {
            yard(2, 2).stand(0, onDays(5, day)).due("count 6", 0).refused("night 50", 0);
        }
        for (int day : new int[] {6, 1000}) {
            yard(2, 2).stand(0, onDays(5, day)).due("count 6", 1).due("night 50", 1).due("where 1 0", 1);
        }
        yard(2, 3).stand(0, onDays(4, 9, 5)).due("count 6", 2).due("night 1", 1).due("where 2 0", 1);
    }

    private static void nightMovesTopBoxes() {
        sentence(10, "of all boxes on top of their row that are in the way");
        Scene x = yard(2, 3).stand(0, onDays(1, 9, 1)).due("count 6", 1).refused("night 50", 0);
        x.given("take 2").due("night 50", 1).due("where 1 0", 1);
    }

    private static void nightMovesTheMostInTheWay() {
        sentence(10, "the one with the most boxes below it that leave sooner");
        for (int row = 0; row <= 1; row++) {
            Scene x = yard(3, 4).stand(row, onDays(9, 9, 1, 9)).stand(1 - row, onDays(1, 1, 9));
            x.due("night 1", 1).due("where 6 0", 2).due("where 3 0", row);
        }
    }

    private static void nightMovesTheLeastRows() {
        sentence(10, "of such the least row's");
        for (int row = 0; row <= 1; row++) {
            Scene x = yard(3, 3).stand(row, onDays(1, 9)).stand(1 - row, onDays(1, 9));
            x.due("night 1", 1).due("at 2 0", row == 0 ? 1 : 3).due("at 1 1", row == 0 ? 3 : 1);
        }
        Scene last = yard(16, 2).stand(15, onDays(1, 9)).stand(14, onDays(1, 9));
        last.due("night 1", 1).due("where 3 0", 0).due("night 1", 1).due("where 1 0", 0);
    }

    private static void nightLeavesWhatHasNoRow() {
        sentence(10, "but those alone for which there is a row, not their own");
        yard(1, 8).stand(0, onDays(1, 9)).due("count 6", 1).refused("night 50", 0);
        yard(2, 8).stand(0, onDays(1, 9)).due("count 6", 1).due("night 50", 1);
        Scene stuck = yard(3, 3).stand(0, "1 10 1 2 0", "1 10 1 2 0", "1 10 9 2 0").stand(1, onDays(1, 9));
        stuck.given("reserve 2 1").due("night 50", 1).due("where 2 0", 0).due("where 4 0", 2).due("count 6", 1);
        Scene both = yard(2, 2).stand(0, onDays(1, 9)).stand(1, onDays(1, 9)).due("count 6", 2);
        both.refused("night 50", 0).given("take 3", "take 2").due("night 50", 1).due("where 1 0", 1);
    }

    private static void nightPutsNoneInTheWay() {
        sentence(10, "and are not in the way");
        yard(2, 4).stand(0, onDays(1, 5)).stand(1, onDays(6)).due("night 50", 1).due("where 1 0", 1);
        yard(2, 4).stand(0, onDays(1, 5)).stand(1, onDays(5)).due("night 50", 1).due("where 1 0", 1);
        yard(2, 4).stand(0, onDays(1, 5)).stand(1, onDays(4)).refused("night 50", 0);
        yard(2, 4).stand(0, onDays(1, 5)).stand(1, onDays(5, 5, 4)).refused("night 50", 0);
        yard(2, 4).stand(0, onDays(1, 5)).stand(1, onDays(4, 9, 9)).refused("night 50", 0);
        yard(2, 3).stand(0, onDays(1, 5)).stand(1, onDays(5, 5, 5)).refused("night 50", 0);
        yard(2, 4).stand(0, onDays(1, 5)).stand(1, onDays(5, 5, 5)).due("night 50", 1).due("where 1 1", 3);
    }

    private static void nightTakesTheBestRow() {
        sentence(10, "it is shifted to the best of these");
        // 7 units lighter is 19, one below the 20 of an empty row; 6 units lighter is 22.
        for (int row = 1; row <= 2; row++) {
            Scene x = yard(3, 3).stand(0, onDays(1, 5)).stand(row, "1 17 5 2 0");
            x.due("night 50", 1).due("where 1 0", 3 - row);
            Scene y = yard(3, 3).stand(0, onDays(1, 5)).stand(row, "1 16 5 2 0");
            y.due("night 50", 1).due("where 1 0", row);
        }
        yard(4, 3).stand(0, onDays(1, 5)).due("night 50", 1).due("where 1 0", 1);
        yard(4, 3).stand(3, onDays(1, 5)).due("night 50", 1).due("where 1 0", 0);
        Scene least = yard(4, 3).stand(0, onDays(1, 5)).stand(2, "1 10 5 2 0").stand(3, "1 10 5 2 0");
        least.due("night 50", 1).due("where 1 0", 2);
        // Row 1 would score 40 - 15 + 12 + 30, but there it would be in the way.
        Scene clear = yard(3, 3).stand(0, onDays(1, 5)).stand(1, onDays(4)).given("reserve 1 1");
        clear.due("night 50", 1).due("where 1 0", 2);
        // Row 2 scores 40 + 12, row 3 20 + 30; with the box of row 2 gone it scores 20.
        Scene reserved = yard(4, 3).stand(0, onDays(1, 5)).stand(2, onDays(5)).given("reserve 3 1");
        reserved.due("night 50", 1).due("where 1 0", 2);
        reserved.given("undo", "take 2").due("night 50", 1).due("where 1 0", 3);
    }

    // ---- Promise 11: undo

    private static void undo() {
        undoOfNone();
        undoKeepsTheLatestHundred();
        undoOfTheLatestNotUndone();
        lastCallsOfAnObject();
        undoGoesBack();
        undoOfANight();
        undoOfWhatIsNoMove();
    }

    /** One box that goes round three rows; the rows it came through are known here too. */
    private static final class Walk {
        final Scene x = yard(3, 1).given("box " + onDay(1));
        final List<Integer> trail = new ArrayList<>(List.of(-1));
        int kept = 0;

        void moves(int times) {
            for (int i = 0; i < times; i++) {
                int from = trail.get(trail.size() - 1);
                int to = (from + 1) % 3;
                x.given((from == -1 ? "put 0 " : "shift 0 ") + to);
                trail.add(to);
                kept = Math.min(100, kept + 1);
            }
            counted();
        }

        void undos(int times) {
            for (int i = 0; i < times; i++) {
                trail.remove(trail.size() - 1);
                kept--;
                x.due("undo", 0).due("where 0 0", trail.get(trail.size() - 1));
            }
            counted();
        }

        void counted() {
            x.due("count 5", trail.size() - 1).due("count 7", kept);
        }
    }

    private static void undoOfNone() {
        sentence(11, "NONE if there is none that is kept");
        yard(1, 1).refused("undo", -1).given("box " + ANY_BOX).refused("undo", -1).given("put 0 0").due("undo", 0)
            .refused("undo", -1);
        Scene refused = yard(2, 2).given("box " + ANY_BOX, "ground 0 2", "reserve 1 5");
        refused.due("take 0", 0).due("shift 0 1", 0).due("put 1 0", BAD_INDEX).due("put 0 0", -8).due("put 0 1", -2);
        refused.due("night 50", 0).due("choose 0", -1).due("score 0 0", BAD_STATE).due("count 5", 0);
        refused.due("count 7", 0).refused("undo", -1);
    }

    private static void undoKeepsTheLatestHundred() {
        sentence(11, "(the latest 100 are kept)");
        for (int moves : new int[] {1, 2, 99, 100, 101, 102}) {
            Walk walk = new Walk();
            walk.moves(moves);
            walk.undos(Math.min(moves, 100));
            walk.x.refused("undo", -1);
            walk.counted();
            walk.moves(1);
            walk.undos(1);
            walk.x.refused("undo", -1);
        }
        for (int moves : new int[] {199, 200, 201}) {
            Walk walk = new Walk();
            walk.moves(moves);
            walk.undos(100);
            walk.x.due("undo", -1).due("where 0 0", walk.trail.get(moves - 100));
            walk.counted();
        }
    }

    private static void undoOfTheLatestNotUndone() {
        sentence(11, "The latest move is UNDONE: its box");
        yard(1, 3).stand(0, onDays(1, 1)).due("undo", 1).due("undo", 0).due("undo", -1);
        yard(1, 3).stand(0, onDays(1, 1)).due("undo", 1).stand(0, onDays(1)).due("undo", 2).due("undo", 0);
        sentence(11, "UNDONE is the latest move that was not undone");
        Walk walk = new Walk();
        walk.moves(101);
        walk.undos(30);
        walk.moves(29);
        walk.moves(1);
        walk.undos(1);
        walk.moves(2);
        walk.undos(100);
        walk.x.due("undo", -1);
        walk.counted();
    }

    private static void lastCallsOfAnObject() {
        sentence(11, "An object is used for at most 512 calls after it has been made");
        Scene x = yard(3, 1).given("box " + onDay(1), "put 0 0");
        for (int move = 1; move < 509; move++) {
            x.given("shift 0 " + move % 3);
        }
        x.due("count 5", 509).due("count 7", 100);
    }

    private static void undoGoesBack() {
        sentence(11, "it is as it was ahead of it, and counts as a move no more");
        Scene x = yard(3, 3).given("box " + onDay(1), "box " + onDay(9), "ground 2 1", "reserve 1 1");
        List<String> states = new ArrayList<>();
        String[] moves = {"put 0 0", "put 1 0", "shift 1 1", "take 0", "put 0 1", "take 0", "shift 1 2", "put 0 2"};
        int[] moved = {0, 1, 1, 0, 0, 0, 1, 0};
        for (String move : moves) {
            states.add(x.state());
            x.given(move);
        }
        for (int i = moves.length - 1; i >= 0; i--) {
            x.due("undo", moved[i]).unchanged(states.get(i)).due("count 5", i).due("count 7", i);
        }
        x.refused("undo", -1);
    }

    private static void undoOfANight() {
        sentence(11, "a box that is put, taken away, or shifted from the top of a row onto another one");
        Scene x = yard(4, 3).stand(0, onDays(1, 9, 8));
        String before = x.state();
        x.due("night 1", 1);
        String between = x.state();
        x.due("night 50", 1).due("undo", 1).unchanged(between).due("undo", 2).unchanged(before);
        x.due("night 50", 2).due("undo", 1).unchanged(between).due("undo", 2).unchanged(before).due("undo", 2);
    }

    private static void undoOfWhatIsNoMove() {
        sentence(11, "What is not a move (boxes told, grounds, reserved rows) is never undone");
        Scene x = yard(2, 1).given("box " + onDay(1), "put 0 0", "shift 0 1", "box " + onDay(2), "ground 0 2",
            "reserve 0 2", "reserve 1 1").due("count 5", 2).due("count 7", 2);
        x.due("undo", 0).due("where 0 0", 0).due("count 3", 2).due("count 60", 2).due("count 80", 2);
        x.due("count 81", 1).due("undo", 0).due("where 0 0", -1).refused("undo", -1).due("count 3", 2);
        x.due("count 60", 2).due("count 80", 2).due("count 81", 1).due("put 0 0", -2);
    }

    // ---- Promise 12: where

    private static void where() {
        whereItStands();
        whereBoxesAreAbove();
        whereInTheWay();
        whereOfTraits();
        whereWithoutBoxOrWhat();
    }

    private static void whereItStands() {
        sentence(12, "what 0: its row (NONE without)");
        Scene x = yard(16, 8).given("box " + ANY_BOX).due("where 0 0", -1).given("put 0 15").due("where 0 0", 15);
        x.given("shift 0 0").due("where 0 0", 0).given("take 0").due("where 0 0", -1);
        x.given("undo").due("where 0 0", 0).given("undo").due("where 0 0", 15).given("undo").due("where 0 0", -1);

        sentence(12, "1: its tier (0 the lowest; NONE without)");
        Scene y = yard(1, 8).given("box " + onDay(1)).due("where 0 1", -1).given("put 0 0").due("where 0 1", 0);
        for (int tier = 1; tier < 8; tier++) {
            y.stand(0, onDay(1)).due("where " + tier + " 1", tier).due("where 0 1", 0);
        }
        y.given("take 7").due("where 7 1", -1).due("where 6 1", 6).given("put 7 0").due("where 7 1", 7);
    }

    private static void whereBoxesAreAbove() {
        sentence(12, "2: boxes above it (0 without)");
        Scene x = yard(2, 8).given("box " + onDay(1)).due("where 0 2", 0).given("put 0 0").due("where 0 2", 0);
        for (int above = 1; above < 8; above++) {
            x.stand(0, onDay(1)).due("where 0 2", above).due("where 1 2", above - 1).due("where " + above + " 2", 0);
        }
        x.given("take 7").due("where 7 2", 0).due("where 0 2", 6).due("where 6 2", 0);
        x.given("shift 6 1").due("where 6 2", 0).due("where 0 2", 5);
    }

    private static void whereInTheWay() {
        sentence(12, "3: 1 if it is IN THE WAY");
        int[][] days = {{5, 4, 0}, {5, 5, 0}, {5, 6, 1}, {0, 1, 1}, {0, 0, 0}, {1000, 1000, 0}, {999, 1000, 1}};
        for (int[] d : days) {
            yard(1, 2).stand(0, onDays(d[0], d[1])).due("where 0 3", 0).due("where 1 3", d[2]);
        }
        yard(1, 3).stand(0, onDays(4, 9, 5)).due("where 2 3", 1).due("where 1 3", 1).due("where 0 3", 0);
        yard(1, 3).stand(0, onDays(5, 9, 5)).due("where 2 3", 0).due("where 1 3", 1).given("take 2", "take 1")
            .due("where 1 3", 0);
        yard(2, 2).stand(0, onDays(1)).stand(1, onDays(9)).due("where 1 3", 0);
    }

    private static void whereOfTraits() {
        sentence(12, "4: size, 5: weight, 6: leaves, 7: ship, 8: kind");
        Scene x = yard(2, 2).given("box 3 40 1000 9 2", "box 1 1 0 1 0").given("ground 0 2", "put 0 0");
        x.due("where 0 4", 3).due("where 0 5", 40).due("where 0 6", 1000).due("where 0 7", 9).due("where 0 8", 2);
        x.due("where 1 4", 1).due("where 1 5", 1).due("where 1 6", 0).due("where 1 7", 1).due("where 1 8", 0);
    }

    private static void whereWithoutBoxOrWhat() {
        sentence(12, "IndexOutOfBoundsException if there is no such box or what");
        yard(1, 1).refused("where 0 0", BAD_INDEX).given("box " + ANY_BOX).due("where 0 0", -1);
        Scene x = yard(2, 2).given("box " + ANY_BOX, "box 1 1 1 1 2");
        for (int what : new int[] {LEAST, -1, 9, 10, MOST}) {
            x.refused("where 0 " + what, BAD_INDEX).refused("where 2 " + what, BAD_INDEX);
        }
        for (int box : new int[] {LEAST, -1, 2, 59, 60, MOST}) {
            for (int what = 0; what <= 8; what++) {
                x.refused("where " + box + " " + what, BAD_INDEX);
            }
        }
        x.due("where 0 0", -1).due("where 1 8", 2);
    }

    // ---- Promise 13: at

    private static void at() {
        atATier();
        atWithoutRowOrTier();
    }

    private static void atATier() {
        sentence(13, "The box of a row at a tier; NONE without");
        Scene x = yard(2, 3).due("at 0 0", -1).due("at 1 2", -1).stand(1, onDays(1, 1));
        x.due("at 1 0", 0).due("at 1 1", 1).due("at 1 2", -1).due("at 0 0", -1).stand(1, onDays(1)).due("at 1 2", 2);
        x.given("take 2").due("at 1 2", -1).given("shift 1 0").due("at 1 1", -1).due("at 0 0", 1).due("at 0 1", -1);
        x.given("undo").due("at 1 1", 1).due("at 0 0", -1);
    }

    private static void atWithoutRowOrTier() {
        sentence(13, "IndexOutOfBoundsException if there is no such row or tier");
        Scene x = yard(2, 3).stand(1, onDays(1, 1));
        for (int row : new int[] {LEAST, -1, 2, 15, 16, MOST}) {
            x.refused("at " + row + " 0", BAD_INDEX).refused("at " + row + " 3", BAD_INDEX);
        }
        for (int tier : new int[] {LEAST, -1, 3, 7, 8, MOST}) {
            x.refused("at 0 " + tier, BAD_INDEX).refused("at 1 " + tier, BAD_INDEX);
        }
        yard(16, 8).due("at 15 7", -1).refused("at 16 7", BAD_INDEX).refused("at 15 8", BAD_INDEX);
        yard(1, 1).due("at 0 0", -1).refused("at 1 0", BAD_INDEX).refused("at 0 1", BAD_INDEX);
    }

    // ---- Promise 14: count

    private static void count() {
        countOfTheYard();
        countOfBoxesAndMoves();
        countOfBoxesInTheWay();
        countOfMovesKept();
        countOfRows();
        countOfNothing();
    }

    private static void countOfTheYard() {
        sentence(14, "what 0: rows, 1: tiers, 2: what a ground bears");
        yard(1, 1).due("count 0", 1).due("count 1", 1).due("count 2", 400);
        new Scene(16, 8, 1).due("count 0", 16).due("count 1", 8).due("count 2", 1);
        new Scene(5, 6, 7).due("count 0", 5).due("count 1", 6).due("count 2", 7);
    }

    private static void countOfBoxesAndMoves() {
        sentence(14, "3: boxes, 4: boxes that stand in the yard, 5: moves that were made and not undone");
        Scene x = new Scene(3, 4, 99).due("count 3", 0).given("box " + onDay(5));
        x.due("count 3", 1).due("count 4", 0).due("count 5", 0);
        x.given("put 0 0").due("count 4", 1).due("count 5", 1).given("shift 0 2").due("count 4", 1).due("count 5", 2);
        x.given("take 0").due("count 4", 0).due("count 5", 3).given("undo").due("count 4", 1).due("count 5", 2);
        x.due("count 3", 1).due("count 0", 3).due("count 1", 4).due("count 2", 99);
    }

    private static void countOfBoxesInTheWay() {
        sentence(14, "6: boxes IN THE WAY");
        Scene x = yard(2, 4).stand(1, onDays(5, 5)).due("count 6", 0).stand(1, onDays(6)).due("count 6", 1);
        x.stand(1, onDays(6)).due("count 6", 2).given("box " + onDay(9)).due("count 6", 2);
        x.given("take 3").due("count 6", 1).given("undo").due("count 6", 2);
        // The first box told and the last one of sixty.
        Scene ends = yard(1, 2).given("box " + onDay(9), "box " + onDay(1), "put 1 0", "put 0 0").due("count 6", 1);
        ends.given("take 0");
        for (int box = 2; box < 60; box++) {
            ends.given("box " + onDay(9));
        }
        ends.due("count 6", 0).given("put 59 0").due("count 6", 1);
    }

    private static void countOfMovesKept() {
        sentence(14, "7: moves that can be undone");
        Walk walk = new Walk();
        walk.counted();
        walk.moves(99);
        walk.moves(1);
        walk.moves(1);
        walk.undos(1);
        walk.moves(1);
    }

    private static void countOfRows() {
        sentence(14, "of row r: 20 + r: boxes, 40 + r: weight, 60 + r: GROUND, "
            + "80 + r: the ship for which it is RESERVED (0 none)");
        Scene x = yard(16, 8).given("ground 15 1", "ground 0 2", "reserve 0 9").stand(15, "2 40 1 7 1", "2 1 1 7 0");
        x.given("reserve 15 7").stand(14, "3 5 1 1 0");
        int[][] wants = {{20, 0}, {40, 0}, {60, 2}, {80, 9}, {21, 0}, {41, 0}, {61, 0}, {81, 0}, {34, 1}, {54, 5},
            {74, 0}, {94, 0}, {35, 2}, {55, 41}, {75, 1}, {95, 7}};
        for (int[] want : wants) {
            x.due("count " + want[0], want[1]);
        }
        x.given("take 1").due("count 35", 1).due("count 55", 40).given("take 0").due("count 35", 0).due("count 55", 0);
        x.given("undo").due("count 35", 1).due("count 55", 40);
    }

    private static void countOfNothing() {
        sentence(14, "NONE for another what or row");
        Scene x = yard(16, 8).given("ground 15 1", "reserve 0 9");
        for (int what : new int[] {LEAST, LEAST + 20, -80, -20, -1, 8, 9, 19, 36, 39, 56, 59, 76, 79, 96, 99, 100, 101,
            119, 120, MOST}) {
            x.refused("count " + what, -1);
        }
        for (int rows = 1; rows <= 16; rows++) {
            Scene some = yard(rows, 1).due("count 7", 0).due("count 8", -1).due("count 19", -1);
            for (int span = 20; span <= 80; span += 20) {
                some.due("count " + (span + rows - 1), 0).due("count " + (span + rows), -1);
                some.due("count " + (span + 19), -1);
            }
        }
    }

    // ---- All promises: what throws or is refused

    private static void refusedCalls() {
        refusedChangesNothing(1);
        refusedChangesNothing(60);
    }

    /** Box 1 is in the way but can't be moved, box 3 may stand nowhere; box 4 comes and goes so many times. */
    private static Scene yardThatRefuses(int times) {
        Scene x = new Scene(3, 2, 40).given("ground 1 1", "reserve 1 2", "ground 2 2");
        x.stand(0, plain(20, 1), plain(20, 9)).stand(1, "1 30 5 2 1").given("box " + plain(20, 5), "box 2 9 5 1 2");
        for (int i = 0; i < times; i++) {
            x.given("put 4 2", "take 4");
        }
        return x.given("undo");
    }

    private static void refusedChangesNothing(int times) {
        Scene x = yardThatRefuses(times);
        String[][] calls = {
            {"2", "box 0 1 1 1 0", BAD_ARGUMENT}, {"2", "box 1 1 1 1 3", BAD_ARGUMENT},
            {"3", "ground 0 1", "false"}, {"3", "ground 3 0", "false"}, {"3", "ground 2 3", "false"},
            {"4", "reserve 0 2", "false"}, {"4", "reserve 3 0", "false"}, {"4", "reserve 1 10", "false"},
            {"5", "put 0 1", "-1"}, {"5", "put 3 1", "-2"}, {"5", "put 3 0", "-3"}, {"5", "put 3 2", "-5"},
            {"5", "put 5 0", BAD_INDEX}, {"5", "put 3 3", BAD_INDEX}, {"5", "put -1 0", BAD_INDEX},
            {"6", "take 0", "0"}, {"6", "take 3", "0"}, {"6", "take 5", BAD_INDEX}, {"6", "take -1", BAD_INDEX},
            {"7", "shift 0 1", "0"}, {"7", "shift 3 0", "0"}, {"7", "shift 1 0", "-1"}, {"7", "shift 1 1", "-2"},
            {"7", "shift 1 2", "-5"}, {"7", "shift 5 0", BAD_INDEX}, {"7", "shift 1 3", BAD_INDEX},
            {"8", "choose 1", "-1"}, {"8", "choose 3", "-1"}, {"8", "choose 5", BAD_INDEX},
            {"9", "score 1 0", BAD_STATE}, {"9", "score 3 0", BAD_STATE}, {"9", "score 5 0", BAD_INDEX},
            {"10", "night -1", BAD_ARGUMENT}, {"10", "night 51", BAD_ARGUMENT}, {"10", "night 50", "0"},
            {"12", "where 0 9", BAD_INDEX}, {"12", "where 5 0", BAD_INDEX}, {"13", "at 3 0", BAD_INDEX},
            {"13", "at 0 2", BAD_INDEX}, {"14", "count 8", "-1"}, {"14", "count 23", "-1"}};
        for (String[] call : calls) {
            sentence(Integer.parseInt(call[0]), "What throws or is refused changes nothing");
            x.refused(call[1], call[2]);
        }
        sentence(11, "What throws or is refused changes nothing");
        x.due("undo", 4).due("where 4 0", -1);
    }
}
