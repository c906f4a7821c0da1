import java.util.NoSuchElementException;

/** Promises 16 to 22: posts, what they tell, and the cells from which the prank can have come. */
public final class PostsTest {
    private static final Class<?> NO_INDEX = IndexOutOfBoundsException.class;
    private static final Class<?> IMPROPER = IllegalArgumentException.class;
    private static final Class<?> REFUSED = UnsupportedOperationException.class;
    private static final Class<?> NOT_FOUND = NoSuchElementException.class;
    private static final Check CHECK = new Check("PostsTest");

    public static void main(String[] args) {
        post();
        dropPost();
        tell();
        postOf();
        fits();
        fitting();
        fittingByBothWays();
        fix();
        CHECK.end();
    }

    private static void post() {
        BellObservatory x = new BellObservatory();
        CHECK.due("post(-1)", IMPROPER, () -> x.post(-1));
        CHECK.due("post(64)", IMPROPER, () -> x.post(64));
        x.house(0, 0, 0);
        x.hall(0, 0, 1);
        CHECK.due("post at a house", 0, () -> x.post(0));
        CHECK.due("post in a hall", 1, () -> x.post(1));
        x.block(63);
        CHECK.due("post on a block", REFUSED, () -> x.post(63));
        CHECK.due("reason 2", 2, () -> x.refusal(false));
        CHECK.due("the cell", 63, () -> x.refusal(true));
        CHECK.due("post on a post", REFUSED, () -> x.post(1));
        CHECK.due("reason 7", 7, () -> x.refusal(false));
        CHECK.due("the post", 1, () -> x.refusal(true));
        x.block(1);
        CHECK.due("post on a block with a post", REFUSED, () -> x.post(1));
        CHECK.due("reason 2 ahead of 7", 2, () -> x.refusal(false));
        CHECK.due("a third post", 2, () -> x.post(62));
        CHECK.due("a fourth post", 3, () -> x.post(61));
        CHECK.due("a fifth post", REFUSED, () -> x.post(60));
        CHECK.due("reason 1", 1, () -> x.refusal(false));
        CHECK.due("the most posts", 4, () -> x.refusal(true));
        CHECK.due("a fifth post on a post", REFUSED, () -> x.post(61));
        CHECK.due("reason 7 ahead of 1", 7, () -> x.refusal(false));
        CHECK.due("the fourth post", 3, () -> x.refusal(true));
        CHECK.due("a fifth post on a block", REFUSED, () -> x.post(63));
        CHECK.due("reason 2 ahead of 1", 2, () -> x.refusal(false));
        CHECK.due("posts", 4, () -> x.account(4));
    }

    private static void dropPost() {
        BellObservatory x = new BellObservatory();
        CHECK.due("dropPost of none", NO_INDEX, () -> x.dropPost(0));
        x.house(36, 0, 0);
        x.ring(0, 9, 0);
        x.post(10);
        x.post(20);
        x.post(30);
        x.tell(1, 5);
        x.tell(2, 6);
        CHECK.due("dropPost(-1)", NO_INDEX, () -> x.dropPost(-1));
        CHECK.due("dropPost(3)", NO_INDEX, () -> x.dropPost(3));
        CHECK.due("dropPost(1)", 2, () -> x.dropPost(1));
        CHECK.due("the earlier post stays", 10, () -> x.postOf(0, 0));
        CHECK.due("the later post moves", 30, () -> x.postOf(1, 0));
        CHECK.due("with what it tells", 6, () -> x.postOf(1, 1));
        CHECK.due("one tells", 1, () -> x.account(5));
        x.dropPost(1);
        CHECK.due("nothing is told", 0, () -> x.account(5));
        CHECK.due("so that all fit", 64, () -> x.fitting(false));
        CHECK.due("a new post in its place", 1, () -> x.post(30));
        CHECK.due("tells nothing", NOT_FOUND, () -> x.postOf(1, 1));
        x.post(40);
        x.post(50);
        x.tell(3, 4);
        CHECK.due("one of four goes", 3, () -> x.dropPost(0));
        CHECK.due("the last of four moves", 50, () -> x.postOf(2, 0));
        CHECK.due("with what it told", 4, () -> x.postOf(2, 1));
        CHECK.due("a fourth post again", 3, () -> x.post(10));
        CHECK.due("tells nothing either", NOT_FOUND, () -> x.postOf(3, 1));
    }

    private static void tell() {
        BellObservatory x = new BellObservatory();
        CHECK.due("tell without posts", NO_INDEX, () -> x.tell(0, 15));
        x.post(0);
        CHECK.due("tell(-1, 3)", NO_INDEX, () -> x.tell(-1, 3));
        CHECK.due("tell(1, 3)", NO_INDEX, () -> x.tell(1, 3));
        CHECK.due("tell(0, -1)", IMPROPER, () -> x.tell(0, -1));
        CHECK.due("tell(0, 15)", IMPROPER, () -> x.tell(0, 15));
        x.house(16, 0, 0);
        x.house(17, 0, 1);
        x.hall(2, 0, 1);
        x.ring(0, 2, 0);
        CHECK.due("tell of no prank", REFUSED, () -> x.tell(0, 3));
        CHECK.due("reason 5", 5, () -> x.refusal(false));
        CHECK.due("an echo that was a prank", 1, () -> x.refusal(true));
        x.ring(1, 0, 1);
        CHECK.due("none tells", 0, () -> x.account(5));
        CHECK.due("tell(0, 0)", 1, () -> x.tell(0, 0));
        CHECK.due("the first post tells", 1, () -> x.account(5));
        CHECK.due("tell(0, 14)", 1, () -> x.tell(0, 14));
        CHECK.due("tell(0, 14) again", REFUSED, () -> x.tell(0, 14));
        CHECK.due("reason 6", 6, () -> x.refusal(false));
        CHECK.due("the number", 14, () -> x.refusal(true));
        CHECK.due("tell(0, 3)", 4, () -> x.tell(0, 3));
        CHECK.due("in place of it", 3, () -> x.postOf(0, 1));
        x.block(3);
        CHECK.due("tell(0, 4) is five", 5, () -> x.tell(0, 4));
        CHECK.due("tell(0, 3) is three", 3, () -> x.tell(0, 3));
    }

    private static void postOf() {
        BellObservatory x = new BellObservatory();
        CHECK.due("postOf none", NO_INDEX, () -> x.postOf(0, 2));
        x.post(63);
        CHECK.due("postOf(-1, 0)", NO_INDEX, () -> x.postOf(-1, 0));
        CHECK.due("postOf(1, 1)", NO_INDEX, () -> x.postOf(1, 1));
        CHECK.due("postOf(0, -1)", IMPROPER, () -> x.postOf(0, -1));
        CHECK.due("postOf(0, 2)", IMPROPER, () -> x.postOf(0, 2));
        CHECK.due("its cell", 63, () -> x.postOf(0, 0));
        CHECK.due("it tells nothing", NOT_FOUND, () -> x.postOf(0, 1));
        x.house(5, 0, 0);
        x.ring(0, 0, 2);
        x.tell(0, 0);
        CHECK.due("it tells 0", 0, () -> x.postOf(0, 1));
    }

    private static void fits() {
        BellObservatory x = new BellObservatory();
        CHECK.due("fits(-1)", IMPROPER, () -> x.fits(-1));
        CHECK.due("fits(64)", IMPROPER, () -> x.fits(64));
        CHECK.due("fits without a prank", NOT_FOUND, () -> x.fits(0));
        x.house(9, 0, 0);
        x.ring(0, 9, 9);
        CHECK.due("all fit", true, () -> x.fits(63));
        x.block(1);
        CHECK.due("a blocked one does not", false, () -> x.fits(1));
        x.post(0);
        x.post(16);
        x.tell(0, 2);
        x.tell(1, 2);
        for (int cell = 0; cell < 64; cell++) {
            int place = cell;
            CHECK.due("fits(" + cell + ")", cell == 9, () -> x.fits(place));
        }
        CHECK.due("fits(64) with a prank", IMPROPER, () -> x.fits(64));
    }

    private static void fitting() {
        BellObservatory x = new BellObservatory();
        for (boolean isAgain : new boolean[] {false, true}) {
            CHECK.due("fitting without a prank", NOT_FOUND, () -> x.fitting(isAgain));
        }
        x.house(9, 0, 0);
        x.ring(0, 9, 9);
        x.block(1);
        x.block(63);
        for (boolean isAgain : new boolean[] {false, true}) {
            CHECK.due("all but blocked ones", 62, () -> x.fitting(isAgain));
        }
        x.post(27);
        x.post(0);
        x.tell(1, 1);
        for (boolean isAgain : new boolean[] {false, true}) {
            CHECK.due("beside the corner", 1, () -> x.fitting(isAgain));
        }
    }

    private static void fittingByBothWays() {
        for (int cell = 0; cell < 64; cell += 7) {
            BellObservatory x = new BellObservatory();
            x.house(cell == 0 ? 1 : 0, 0, 0);
            x.ring(0, 0, 1);
            x.post(cell);
            for (int far = 0; far <= 14; far++) {
                int told = x.tell(0, far);
                int due = cellsAt(cell, far);
                CHECK.due("tell " + far + " at " + cell, due, () -> told);
                CHECK.due("fitting(false) " + far + " at " + cell, due, () -> x.fitting(false));
                CHECK.due("fitting(true) " + far + " at " + cell, due, () -> x.fitting(true));
            }
        }
    }

    private static int cellsAt(int cell, int far) {
        int count = 0;
        for (int row = 0; row < 8; row++) {
            for (int column = 0; column < 8; column++) {
                if (Math.abs(row - cell / 8) + Math.abs(column - cell % 8) == far) {
                    count++;
                }
            }
        }
        return count;
    }

    private static void fix() {
        BellObservatory x = new BellObservatory();
        CHECK.due("fix without a prank", NOT_FOUND, () -> x.fix(0));
        x.house(9, 0, 0);
        x.ring(0, 9, 9);
        CHECK.due("fix(-1)", NOT_FOUND, () -> x.fix(-1));
        CHECK.due("fix(64)", NOT_FOUND, () -> x.fix(64));
        CHECK.due("fix(63)", 63, () -> x.fix(63));
        x.post(27);
        x.tell(0, 1);
        x.block(26);
        int[] due = {19, 28, 35};
        for (int place = 0; place < 3; place++) {
            int number = place;
            CHECK.due("fix(" + place + ")", due[place], () -> x.fix(number));
        }
        CHECK.due("fix(3)", NOT_FOUND, () -> x.fix(3));
        CHECK.due("fix of the least number", NOT_FOUND, () -> x.fix(Integer.MIN_VALUE));
    }
}
