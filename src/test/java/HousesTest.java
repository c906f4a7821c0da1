import java.util.NoSuchElementException;

/** Promises 1 to 10: a new object, houses, blocks, halls and hours. */
public final class HousesTest {
    private static final Class<?> NO_INDEX = IndexOutOfBoundsException.class;
    private static final Class<?> IMPROPER = IllegalArgumentException.class;
    private static final Class<?> REFUSED = UnsupportedOperationException.class;
    private static final Class<?> NOT_FOUND = NoSuchElementException.class;
    private static final Check CHECK = new Check("HousesTest");

    public static void main(String[] args) {
        newObject();
        house();
        goAway();
        goAwayMovesNumbers();
        goAwayOfTheFirstOfTen();
        block();
        hall();
        dropHall();
        pass();
        houseOf();
        asleep();
        deepest();
        CHECK.end();
    }

    private static void newObject() {
        BellObservatory x = new BellObservatory();
        for (int what = 0; what <= 12; what++) {
            int number = what;
            CHECK.due("a new account(" + what + ")", what == 10 ? -1 : 0, () -> x.account(number));
        }
        for (int row = 0; row < 8; row++) {
            int number = row;
            CHECK.due("a new line", "........", () -> Check.row(x, number));
        }
    }

    private static void house() {
        BellObservatory x = new BellObservatory();
        CHECK.due("house at -1", IMPROPER, () -> x.house(-1, 0, 0));
        CHECK.due("house at 64", IMPROPER, () -> x.house(64, 0, 0));
        CHECK.due("house from -1", IMPROPER, () -> x.house(0, -1, 0));
        CHECK.due("house from 24", IMPROPER, () -> x.house(0, 24, 0));
        CHECK.due("house until -1", IMPROPER, () -> x.house(0, 0, -1));
        CHECK.due("house until 24", IMPROPER, () -> x.house(0, 0, 24));
        CHECK.due("house at the last cell", 0, () -> x.house(63, 23, 0));
        x.block(5);
        CHECK.due("house on a block", REFUSED, () -> x.house(5, 1, 2));
        CHECK.due("reason 2", 2, () -> x.refusal(false));
        CHECK.due("the blocked cell", 5, () -> x.refusal(true));
        for (int cell = 10; cell < 19; cell++) {
            int place = cell;
            CHECK.due("house", cell - 9, () -> x.house(place, 0, 0));
        }
        CHECK.due("an eleventh house", REFUSED, () -> x.house(20, 0, 0));
        CHECK.due("reason 1", 1, () -> x.refusal(false));
        CHECK.due("the most houses", 10, () -> x.refusal(true));
        CHECK.due("an eleventh house on a house", REFUSED, () -> x.house(18, 0, 0));
        CHECK.due("reason 3 ahead of 1", 3, () -> x.refusal(false));
        CHECK.due("the house on it", 9, () -> x.refusal(true));
        CHECK.due("an eleventh house on a block", REFUSED, () -> x.house(5, 0, 0));
        CHECK.due("reason 2 ahead of 1", 2, () -> x.refusal(false));
        CHECK.due("an eleventh house nowhere", IMPROPER, () -> x.house(64, 0, 0));
        CHECK.due("houses", 10, () -> x.account(2));
    }

    private static void goAway() {
        BellObservatory x = new BellObservatory();
        CHECK.due("goAway of none", NO_INDEX, () -> x.goAway(0));
        x.house(3, 1, 2);
        CHECK.due("goAway(-1)", NO_INDEX, () -> x.goAway(-1));
        CHECK.due("goAway(1)", NO_INDEX, () -> x.goAway(1));
        CHECK.due("goAway(0)", 0, () -> x.goAway(0));
        CHECK.due("goAway again", NO_INDEX, () -> x.goAway(0));
        CHECK.due("the cell is free", true, () -> x.block(3));
    }

    private static void goAwayMovesNumbers() {
        BellObservatory x = new BellObservatory();
        x.house(3, 1, 2);
        x.house(4, 5, 6);
        x.house(5, 7, 8);
        x.ring(0, 1, 0);
        x.ring(2, 5, 5);
        x.ring(2, 1, 0);
        CHECK.due("goAway(1)", 2, () -> x.goAway(1));
        int[] first = {3, 1, 2, 1, 0};
        int[] second = {5, 7, 8, 2, 1};
        for (int what = 0; what < 5; what++) {
            int number = what;
            CHECK.due("the earlier house stays, " + what, first[what], () -> x.houseOf(0, number));
            CHECK.due("the later house moves, " + what, second[what], () -> x.houseOf(1, number));
        }
        CHECK.due("its prank stays", 2, () -> x.account(10));
        CHECK.due("its rings stay counted", 3, () -> x.account(7));
        x.goAway(1);
        CHECK.due("the prank stays without its house", 2, () -> x.account(10));
        CHECK.due("a new house has no rings", 0, () -> x.houseOf(x.house(9, 0, 0), 3));
        CHECK.due("a new house has no pranks", 0, () -> x.houseOf(1, 4));
        CHECK.due("all pranks stay counted", 1, () -> x.rings(3));
    }

    private static void goAwayOfTheFirstOfTen() {
        BellObservatory x = new BellObservatory();
        for (int cell = 10; cell < 20; cell++) {
            x.house(cell, cell, 23);
        }
        x.ring(8, 1, 0);
        x.ring(8, 1, 0);
        x.ring(9, 5, 0);
        x.goAway(0);
        CHECK.due("the cell of the last house", 19, () -> x.houseOf(8, 0));
        CHECK.due("the hours of the last house", 1923, () -> 100 * x.houseOf(8, 1) + x.houseOf(8, 2));
        CHECK.due("the rings of the last house", 1, () -> x.houseOf(8, 3));
        CHECK.due("the pranks of the last house", 1, () -> x.houseOf(8, 4));
        CHECK.due("the rings of the last but one", 2, () -> x.houseOf(7, 3));
        CHECK.due("a tenth house again", 9, () -> x.house(10, 0, 0));
        CHECK.due("its rings", 0, () -> x.houseOf(9, 3));
        CHECK.due("its pranks", 0, () -> x.houseOf(9, 4));
    }

    private static void block() {
        BellObservatory x = new BellObservatory();
        CHECK.due("block(-1)", IMPROPER, () -> x.block(-1));
        CHECK.due("block(64)", IMPROPER, () -> x.block(64));
        CHECK.due("block(0)", true, () -> x.block(0));
        CHECK.due("block(63)", true, () -> x.block(63));
        CHECK.due("two blocks", 2, () -> x.account(6));
        CHECK.due("block(0) again", false, () -> x.block(0));
        CHECK.due("one block", 1, () -> x.account(6));
        x.house(1, 0, 0);
        x.house(2, 0, 0);
        CHECK.due("block a house", REFUSED, () -> x.block(2));
        CHECK.due("reason 3", 3, () -> x.refusal(false));
        CHECK.due("the house", 1, () -> x.refusal(true));
        x.post(7);
        x.hall(1, 0, 7);
        CHECK.due("block a post", true, () -> x.block(7));
        CHECK.due("block in a hall", true, () -> x.block(8));
    }

    private static void hall() {
        BellObservatory x = new BellObservatory();
        CHECK.due("hall(-1, 0, 0)", IMPROPER, () -> x.hall(-1, 0, 0));
        CHECK.due("hall(8, 0, 0)", IMPROPER, () -> x.hall(8, 0, 0));
        CHECK.due("hall(0, -1, 0)", IMPROPER, () -> x.hall(0, -1, 0));
        CHECK.due("hall(0, 0, 8)", IMPROPER, () -> x.hall(0, 0, 8));
        CHECK.due("hall(0, 8, 8)", IMPROPER, () -> x.hall(0, 8, 8));
        CHECK.due("hall(0, 3, 2)", IMPROPER, () -> x.hall(0, 3, 2));
        CHECK.due("hall(2, 5, 6)", 0, () -> x.hall(2, 5, 6));
        CHECK.due("hall(2, 2, 2)", 1, () -> x.hall(2, 2, 2));
        CHECK.due("hall over two", REFUSED, () -> x.hall(2, 0, 7));
        CHECK.due("reason 4", 4, () -> x.refusal(false));
        CHECK.due("the lowest cell", 18, () -> x.refusal(true));
        CHECK.due("hall over the end of one", REFUSED, () -> x.hall(2, 6, 7));
        CHECK.due("the cell of the end", 22, () -> x.refusal(true));
        CHECK.due("hall between two", 2, () -> x.hall(2, 3, 4));
        CHECK.due("hall in another row", 3, () -> x.hall(7, 0, 7));
        CHECK.due("a fifth hall", REFUSED, () -> x.hall(0, 0, 0));
        CHECK.due("reason 1", 1, () -> x.refusal(false));
        CHECK.due("the most halls", 4, () -> x.refusal(true));
        CHECK.due("a fifth hall over one", REFUSED, () -> x.hall(7, 7, 7));
        CHECK.due("reason 4 ahead of 1", 4, () -> x.refusal(false));
        CHECK.due("the cell", 63, () -> x.refusal(true));
        CHECK.due("halls", 4, () -> x.account(3));
        CHECK.due("the line", ".._____.", () -> Check.row(x, 2));
    }

    private static void dropHall() {
        BellObservatory x = new BellObservatory();
        CHECK.due("dropHall of none", NO_INDEX, () -> x.dropHall(0));
        x.hall(0, 0, 1);
        x.hall(1, 2, 3);
        x.hall(2, 4, 5);
        x.house(20, 0, 0);
        CHECK.due("dropHall(-1)", NO_INDEX, () -> x.dropHall(-1));
        CHECK.due("dropHall(3)", NO_INDEX, () -> x.dropHall(3));
        CHECK.due("dropHall(1)", 2, () -> x.dropHall(1));
        CHECK.due("the later hall moves", 1, () -> x.houseOf(0, 5));
        CHECK.due("the earlier hall stays", "__......", () -> Check.row(x, 0));
        CHECK.due("its cells are free", "........", () -> Check.row(x, 1));
        CHECK.due("the later hall stays where it is", "....0_..", () -> Check.row(x, 2));
        CHECK.due("dropHall(1) again", 1, () -> x.dropHall(1));
        CHECK.due("the house is in no hall", -1, () -> x.houseOf(0, 5));
        x.hall(3, 0, 0);
        x.hall(4, 0, 0);
        x.hall(5, 6, 7);
        x.dropHall(0);
        CHECK.due("the last of four moves", "......__", () -> Check.row(x, 5));
        CHECK.due("a fourth hall again", 3, () -> x.hall(6, 0, 0));
    }

    private static void pass() {
        BellObservatory x = new BellObservatory();
        CHECK.due("pass(0)", IMPROPER, () -> x.pass(0));
        CHECK.due("pass(-1)", IMPROPER, () -> x.pass(-1));
        CHECK.due("pass(100)", IMPROPER, () -> x.pass(100));
        CHECK.due("pass(1)", 1, () -> x.pass(1));
        CHECK.due("pass(22)", 23, () -> x.pass(22));
        CHECK.due("still the day 0", 0, () -> x.account(1));
        CHECK.due("pass(1) over midnight", 0, () -> x.pass(1));
        CHECK.due("the day 1", 1, () -> x.account(1));
        CHECK.due("pass(99)", 3, () -> x.pass(99));
        CHECK.due("the day 5", 5, () -> x.account(1));
    }

    private static void houseOf() {
        BellObservatory x = new BellObservatory();
        CHECK.due("houseOf none", NO_INDEX, () -> x.houseOf(0, 0));
        x.house(42, 22, 6);
        x.house(44, 9, 17);
        x.house(3, 5, 5);
        CHECK.due("houseOf(-1, 0)", NO_INDEX, () -> x.houseOf(-1, 0));
        CHECK.due("houseOf(3, 0)", NO_INDEX, () -> x.houseOf(3, 0));
        CHECK.due("houseOf(3, 8)", NO_INDEX, () -> x.houseOf(3, 8));
        CHECK.due("houseOf(0, -1)", IMPROPER, () -> x.houseOf(0, -1));
        CHECK.due("houseOf(0, 8)", IMPROPER, () -> x.houseOf(0, 8));
        x.hall(0, 7, 7);
        x.hall(5, 2, 4);
        x.ring(0, 0, 1);
        x.ring(1, 0, 4);
        int[][] wanted = {{42, 22, 6, 2, 1, 1, 1, 8}, {44, 9, 17, 2, 1, 1, 0, 8}, {3, 5, 5, 0, 0, -1, 0, 0}};
        for (int house = 0; house < 3; house++) {
            for (int what = 0; what < 8; what++) {
                int number = house;
                int asked = what;
                CHECK.due("houseOf(" + house + ", " + what + ")", wanted[house][what], () -> x.houseOf(number, asked));
            }
        }
        int[] hours = {0, 5, 6, 8, 9, 16, 17, 21, 22, 23};
        int[] sleeps = {10, 10, 0, 0, 1, 1, 0, 0, 10, 10};
        for (int i = 1; i < hours.length; i++) {
            x.pass(hours[i] - hours[i - 1]);
            int want = sleeps[i];
            CHECK.due("who sleeps at " + hours[i], want,
                    () -> 10 * x.houseOf(0, 6) + x.houseOf(1, 6) + 100 * x.houseOf(2, 6));
        }
    }

    private static void asleep() {
        BellObservatory x = new BellObservatory();
        for (boolean isAgain : new boolean[] {false, true}) {
            CHECK.due("asleep(-1)", IMPROPER, () -> x.asleep(-1, isAgain));
            CHECK.due("asleep(24)", IMPROPER, () -> x.asleep(24, isAgain));
            CHECK.due("asleep(23)", 0, () -> x.asleep(23, isAgain));
        }
        x.house(0, 22, 2);
        x.house(1, 0, 3);
        x.house(2, 23, 0);
        x.house(3, 0, 0);
        x.house(4, 12, 12);
        x.house(5, 1, 23);
        int[] due = {2, 3, 2, 1, 1, 1, 1, 1, 1, 1, 1, 1, 1, 1, 1, 1, 1, 1, 1, 1, 1, 1, 2, 2};
        for (int hour = 0; hour < 24; hour++) {
            int now = hour;
            CHECK.due("asleep(" + hour + ", false)", due[hour], () -> x.asleep(now, false));
            CHECK.due("asleep(" + hour + ", true)", due[hour], () -> x.asleep(now, true));
        }
    }

    private static void deepest() {
        BellObservatory x = new BellObservatory();
        CHECK.due("deepest of none", NOT_FOUND, () -> x.deepest());
        x.house(0, 7, 7);
        CHECK.due("deepest of none that sleeps", NOT_FOUND, () -> x.deepest());
        x.house(1, 23, 0);
        CHECK.due("deepest at the last hour", 23, () -> x.deepest());
        x.house(2, 5, 9);
        CHECK.due("the first of several", 5, () -> x.deepest());
        x.house(3, 8, 10);
        CHECK.due("where two sleep", 8, () -> x.deepest());
        x.house(4, 20, 1);
        x.house(5, 22, 1);
        CHECK.due("where three sleep", 23, () -> x.deepest());
        x.house(6, 0, 1);
        CHECK.due("as many at midnight are ahead", 0, () -> x.deepest());
    }
}
