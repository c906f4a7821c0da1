import java.util.NoSuchElementException;

/** Promises 23 to 27: ways, the round of the post, and houses in orders. */
public final class WaysTest {
    private static final Class<?> IMPROPER = IllegalArgumentException.class;
    private static final Class<?> NOT_FOUND = NoSuchElementException.class;
    private static final Check CHECK = new Check("WaysTest");

    public static void main(String[] args) {
        apart();
        way();
        wayRoundBlocks();
        wayFromBlocks();
        longWay();
        round();
        roundWithoutWay();
        ranked();
        CHECK.end();
    }

    private static void apart() {
        BellObservatory x = new BellObservatory();
        int[][] wrong = {{-1, 0}, {0, -1}, {64, 0}, {0, 64}, {Integer.MIN_VALUE, Integer.MAX_VALUE}};
        for (int[] pair : wrong) {
            CHECK.due("apart of no cell", IMPROPER, () -> x.apart(pair[0], pair[1]));
            CHECK.due("way of no cell", IMPROPER, () -> x.way(pair[0], pair[1], false));
            CHECK.due("way again of no cell", IMPROPER, () -> x.way(pair[0], pair[1], true));
        }
        int[][] due = {{0, 63, 14}, {63, 0, 14}, {7, 8, 8}, {5, 5, 0}, {18, 21, 3}, {18, 42, 3}, {14, 49, 10}};
        for (int[] row : due) {
            CHECK.due("apart(" + row[0] + ", " + row[1] + ")", row[2], () -> x.apart(row[0], row[1]));
        }
        x.block(1);
        x.block(8);
        CHECK.due("blocks do not count", 14, () -> x.apart(0, 63));
        CHECK.due("nor are they far", 1, () -> x.apart(0, 1));
    }

    private static void way() {
        BellObservatory x = new BellObservatory();
        for (boolean isAgain : new boolean[] {false, true}) {
            for (int cell = 0; cell < 64; cell += 3) {
                int end = cell;
                CHECK.due("way(19, " + cell + ")", x.apart(19, cell), () -> x.way(19, end, isAgain));
                CHECK.due("way(" + cell + ", 63)", x.apart(cell, 63), () -> x.way(end, 63, isAgain));
            }
            CHECK.due("not round the edge", 8, () -> x.way(7, 8, isAgain));
        }
    }

    private static void wayRoundBlocks() {
        BellObservatory x = new BellObservatory();
        for (int row = 0; row < 7; row++) {
            x.block(8 * row + 3);
        }
        for (boolean isAgain : new boolean[] {false, true}) {
            CHECK.due("round a wall", 16, () -> x.way(2, 4, isAgain));
            CHECK.due("and back", 16, () -> x.way(4, 2, isAgain));
            CHECK.due("to a block", NOT_FOUND, () -> x.way(2, 3, isAgain));
        }
        x.block(59);
        for (boolean isAgain : new boolean[] {false, true}) {
            CHECK.due("through a wall", NOT_FOUND, () -> x.way(2, 4, isAgain));
            CHECK.due("on one side", 9, () -> x.way(2, 56, isAgain));
        }
    }

    private static void wayFromBlocks() {
        BellObservatory x = new BellObservatory();
        x.block(9);
        x.block(10);
        x.block(20);
        for (boolean isAgain : new boolean[] {false, true}) {
            CHECK.due("from a block to itself", 0, () -> x.way(9, 9, isAgain));
            CHECK.due("from a block", 1, () -> x.way(9, 8, isAgain));
            CHECK.due("from a block far away", 12, () -> x.way(9, 63, isAgain));
            CHECK.due("from a block to another", NOT_FOUND, () -> x.way(9, 10, isAgain));
            CHECK.due("from a block to one far away", NOT_FOUND, () -> x.way(9, 20, isAgain));
            CHECK.due("from a block past another", 4, () -> x.way(9, 11, isAgain));
        }
    }

    private static void longWay() {
        BellObservatory x = new BellObservatory();
        for (int row = 1; row < 8; row += 2) {
            for (int column = 0; column < 7; column++) {
                x.block(8 * row + (row % 4 == 1 ? column : column + 1));
            }
        }
        for (boolean isAgain : new boolean[] {false, true}) {
            CHECK.due("a way through all rows", 35, () -> x.way(0, 56, isAgain));
            CHECK.due("the way back", 35, () -> x.way(56, 0, isAgain));
        }
    }

    private static void round() {
        BellObservatory x = new BellObservatory();
        CHECK.due("a round of none", NOT_FOUND, () -> x.round(0));
        CHECK.due("steps of none", 0, () -> x.steps());
        x.house(27, 0, 0);
        CHECK.due("a round of one", 0, () -> x.round(0));
        CHECK.due("no second", NOT_FOUND, () -> x.round(1));
        CHECK.due("steps of one", 0, () -> x.steps());
        x.house(63, 0, 0);
        x.house(29, 0, 0);
        x.house(25, 0, 0);
        x.house(24, 0, 0);
        int[] due = {0, 2, 3, 4, 1};
        for (int place = 0; place < due.length; place++) {
            int number = place;
            CHECK.due("round(" + place + ")", due[place], () -> x.round(number));
        }
        CHECK.due("round(5)", NOT_FOUND, () -> x.round(5));
        CHECK.due("round(-1)", NOT_FOUND, () -> x.round(-1));
        CHECK.due("steps", 2 + 4 + 1 + 11, () -> x.steps());
        x.goAway(0);
        CHECK.due("steps then", 6 + 4 + 1, () -> x.steps());
        CHECK.due("it begins at the house 0", 0, () -> x.round(0));
        CHECK.due("which is another one then", 1, () -> x.round(1));
        x.undo();
        CHECK.due("steps again", 2 + 4 + 1 + 11, () -> x.steps());
    }

    private static void roundWithoutWay() {
        BellObservatory x = new BellObservatory();
        x.house(0, 0, 0);
        x.house(63, 0, 0);
        x.house(2, 0, 0);
        x.block(55);
        x.block(62);
        x.block(1);
        CHECK.due("the nearest by the way", 2, () -> x.round(1));
        CHECK.due("one is left out", NOT_FOUND, () -> x.round(2));
        CHECK.due("steps round a block", 4, () -> x.steps());
        x.block(62);
        CHECK.due("it is back", 1, () -> x.round(2));
        CHECK.due("steps to it", 4 + 12, () -> x.steps());
    }

    private static void ranked() {
        BellObservatory x = new BellObservatory();
        CHECK.due("ranked of none", NOT_FOUND, () -> x.ranked(0));
        for (int house = 0; house < 5; house++) {
            x.house(9 * house, 0, 0);
        }
        for (int place = 0; place < 5; place++) {
            int number = place;
            CHECK.due("by number", place, () -> x.ranked(number));
        }
        x.ring(3, 1, 0);
        x.ring(3, 1, 0);
        x.ring(1, 1, 0);
        x.ring(4, 9, 0);
        x.ring(2, 9, 0);
        x.ring(2, 1, 0);
        int[] due = {2, 4, 3, 1, 0};
        for (int place = 0; place < 5; place++) {
            int number = place;
            CHECK.due("ranked(" + place + ")", due[place], () -> x.ranked(number));
        }
        CHECK.due("ranked(5)", NOT_FOUND, () -> x.ranked(5));
        CHECK.due("ranked(-1)", NOT_FOUND, () -> x.ranked(-1));
    }
}
