import java.util.NoSuchElementException;

/** Promises 11 to 15: rings, their classes and their echoes. */
public final class RingsTest {
    private static final Class<?> NO_INDEX = IndexOutOfBoundsException.class;
    private static final Class<?> IMPROPER = IllegalArgumentException.class;
    private static final Class<?> NOT_FOUND = NoSuchElementException.class;
    private static final Check CHECK = new Check("RingsTest");

    public static void main(String[] args) {
        wrongRings();
        classes();
        sleepers();
        ringCounts();
        echoesCountWhereTheyAreHeard();
        prankThatIsLookedFor();
        echo();
        heard();
        rings();
        CHECK.end();
    }

    private static void wrongRings() {
        BellObservatory x = new BellObservatory();
        CHECK.due("ring without houses", NO_INDEX, () -> x.ring(0, 0, 0));
        CHECK.due("classOf without houses", NO_INDEX, () -> x.classOf(0, 24, 0, 0));
        CHECK.due("heard without houses", NO_INDEX, () -> x.heard(0, 0, 0));
        x.house(0, 0, 0);
        int[][] wrong = {{-1, 1}, {10, 1}, {1, -1}, {1, 10}, {0, 0}, {Integer.MAX_VALUE, 1}, {-1, 2}, {2, -1}};
        for (int[] tones : wrong) {
            CHECK.due("ring at -1", NO_INDEX, () -> x.ring(-1, tones[0], tones[1]));
            CHECK.due("ring at 1", NO_INDEX, () -> x.ring(1, tones[0], tones[1]));
            CHECK.due("ring", IMPROPER, () -> x.ring(0, tones[0], tones[1]));
            CHECK.due("classOf at 1", NO_INDEX, () -> x.classOf(1, 0, tones[0], tones[1]));
            CHECK.due("classOf", IMPROPER, () -> x.classOf(0, 0, tones[0], tones[1]));
            CHECK.due("heard at 1", NO_INDEX, () -> x.heard(1, tones[0], tones[1]));
            CHECK.due("heard", IMPROPER, () -> x.heard(0, tones[0], tones[1]));
        }
        CHECK.due("classOf at -1", NO_INDEX, () -> x.classOf(-1, 0, 1, 0));
        CHECK.due("classOf in the hour -1", IMPROPER, () -> x.classOf(0, -1, 1, 0));
        CHECK.due("classOf in the hour 24", IMPROPER, () -> x.classOf(0, 24, 1, 0));
        CHECK.due("heard at -1", NO_INDEX, () -> x.heard(-1, 1, 0));
        CHECK.due("no ring", 0, () -> x.account(7));
        CHECK.due("one change", 1, () -> x.account(12));
    }

    private static int classDue(int shorts, int longs) {
        if (longs == 0 && shorts <= 2) {
            return shorts - 1;
        }
        return shorts == 0 && longs > 2 ? 2 : 3;
    }

    private static void classes() {
        BellObservatory x = new BellObservatory();
        x.house(0, 0, 0);
        for (int shorts = 0; shorts <= 9; shorts++) {
            for (int longs = shorts == 0 ? 1 : 0; longs <= 9; longs++) {
                int s = shorts;
                int l = longs;
                CHECK.due("classOf " + s + "+" + l, classDue(s, l), () -> x.classOf(0, 23, s, l));
                CHECK.due("ring " + s + "+" + l, classDue(s, l), () -> x.ring(0, s, l));
            }
        }
    }

    private static void sleepers() {
        BellObservatory x = new BellObservatory();
        x.house(0, 22, 6);
        int[] hours = {0, 5, 6, 21, 22, 23};
        boolean[] sleeps = {true, true, false, false, true, true};
        for (int i = 0; i < hours.length; i++) {
            int hour = hours[i];
            boolean isAsleep = sleeps[i];
            CHECK.due("a visitor at " + hour, isAsleep ? 3 : 0, () -> x.classOf(0, hour, 1, 0));
            CHECK.due("the post at " + hour, isAsleep ? 3 : 1, () -> x.classOf(0, hour, 2, 0));
            CHECK.due("an alarm at " + hour, 2, () -> x.classOf(0, hour, 0, 3));
        }
        CHECK.due("a visitor at night", 3, () -> x.ring(0, 1, 0));
        CHECK.due("the post at night", 3, () -> x.ring(0, 2, 0));
        CHECK.due("an alarm at night", 2, () -> x.ring(0, 0, 9));
        x.pass(6);
        CHECK.due("a visitor by day", 0, () -> x.ring(0, 1, 0));
        CHECK.due("the post by day", 1, () -> x.ring(0, 2, 0));
        CHECK.due("rings of the house", 5, () -> x.houseOf(0, 3));
        CHECK.due("pranks of the house", 2, () -> x.houseOf(0, 4));
    }

    private static void ringCounts() {
        BellObservatory x = new BellObservatory();
        x.house(0, 0, 0);
        x.house(9, 0, 0);
        x.ring(1, 3, 0);
        x.ring(1, 1, 0);
        CHECK.due("no ring at the other house", 0, () -> x.houseOf(0, 3));
        CHECK.due("two rings at the house", 2, () -> x.houseOf(1, 3));
        CHECK.due("one prank at the house", 1, () -> x.houseOf(1, 4));
        CHECK.due("rings at doorbells", 2, () -> x.account(7));
        CHECK.due("echoes", 0, () -> x.account(8));
        CHECK.due("pranks at doorbells", 1, () -> x.account(9));
    }

    private static BellObservatory hallTown() {
        BellObservatory x = new BellObservatory();
        x.house(16, 0, 0);
        x.house(18, 0, 0);
        x.house(19, 20, 4);
        x.house(23, 0, 0);
        x.house(24, 0, 0);
        x.hall(2, 0, 4);
        x.hall(2, 5, 7);
        return x;
    }

    private static void echoesCountWhereTheyAreHeard() {
        BellObservatory x = hallTown();
        CHECK.due("four short tones", 3, () -> x.ring(0, 4, 0));
        CHECK.due("two tones are the post", 1, () -> x.rings(1));
        CHECK.due("one tone at a sleeper is a prank", 2, () -> x.rings(3));
        CHECK.due("no visitor", 0, () -> x.rings(0));
        CHECK.due("echoes", 2, () -> x.account(8));
        CHECK.due("rings at the sleeper", 1, () -> x.houseOf(2, 3));
        CHECK.due("pranks at the sleeper", 1, () -> x.houseOf(2, 4));
        CHECK.due("pranks at the other", 0, () -> x.houseOf(1, 4));
        CHECK.due("none in the other hall", 0, () -> x.houseOf(3, 3));
        CHECK.due("none outside", 0, () -> x.houseOf(4, 3));
        CHECK.due("pranks at doorbells", 1, () -> x.account(9));
        x.ring(4, 9, 9);
        CHECK.due("no echo from outside", 2, () -> x.account(8));
        CHECK.due("an alarm from the end", 2, () -> x.ring(2, 0, 5));
        CHECK.due("echoes to both sides", 4, () -> x.account(8));
        CHECK.due("three alarms", 3, () -> x.rings(2));
        x.ring(1, 1, 0);
        CHECK.due("no echo without tones", 4, () -> x.account(8));
        CHECK.due("a prank", 3, () -> x.ring(1, 1, 3));
        CHECK.due("echoes as two alarms", 5, () -> x.rings(2));
        CHECK.due("six echoes", 6, () -> x.account(8));
    }

    private static void prankThatIsLookedFor() {
        BellObservatory x = hallTown();
        x.post(0);
        x.ring(1, 2, 0);
        CHECK.due("an echo that is a prank", 1, () -> x.rings(3));
        CHECK.due("is not looked for", -1, () -> x.account(10));
        CHECK.due("so that nothing fits", NOT_FOUND, () -> x.fitting(false));
        x.ring(4, 5, 0);
        CHECK.due("a prank is looked for", 4, () -> x.account(10));
        x.tell(0, 3);
        x.ring(1, 2, 0);
        x.ring(1, 0, 3);
        CHECK.due("a ring that is none leaves it", 4, () -> x.account(10));
        CHECK.due("and what is told", 3, () -> x.postOf(0, 1));
        x.ring(0, 5, 0);
        CHECK.due("another prank takes its place", 0, () -> x.account(10));
        CHECK.due("and nothing is told of it", 0, () -> x.account(5));
        CHECK.due("nor by the post", NOT_FOUND, () -> x.postOf(0, 1));
    }

    private static void echo() {
        BellObservatory x = hallTown();
        CHECK.due("echo(-1, 0, 1)", NO_INDEX, () -> x.echo(-1, 0, 1));
        CHECK.due("echo(0, -1, 1)", NO_INDEX, () -> x.echo(0, -1, 1));
        CHECK.due("echo(5, 0, 10)", NO_INDEX, () -> x.echo(5, 0, 10));
        CHECK.due("echo(0, 5, 10)", NO_INDEX, () -> x.echo(0, 5, 10));
        CHECK.due("echo(0, 0, -1)", IMPROPER, () -> x.echo(0, 0, -1));
        CHECK.due("echo(0, 3, 10)", IMPROPER, () -> x.echo(0, 3, 10));
        CHECK.due("echo(0, 0, 5)", NOT_FOUND, () -> x.echo(0, 0, 5));
        CHECK.due("echo in two halls", NOT_FOUND, () -> x.echo(0, 3, 5));
        CHECK.due("echo to the outside", NOT_FOUND, () -> x.echo(0, 4, 5));
        CHECK.due("echo from the outside", NOT_FOUND, () -> x.echo(4, 0, 5));
        CHECK.due("echo(0, 2, 9)", 6, () -> x.echo(0, 2, 9));
        CHECK.due("echo(2, 0, 9)", 6, () -> x.echo(2, 0, 9));
        CHECK.due("echo(0, 2, 3)", 0, () -> x.echo(0, 2, 3));
        CHECK.due("echo(0, 2, 2)", 0, () -> x.echo(0, 2, 2));
        CHECK.due("echo(1, 2, 0)", 0, () -> x.echo(1, 2, 0));
        x.goAway(4);
        x.house(25, 0, 0);
        CHECK.due("two outside of halls", NOT_FOUND, () -> x.echo(4, x.house(40, 0, 0), 5));
    }

    private static void heard() {
        BellObservatory x = hallTown();
        CHECK.due("heard by both", 3, () -> x.heard(0, 4, 0));
        CHECK.due("heard by one other", 2, () -> x.heard(0, 3, 0));
        CHECK.due("heard by none other", 1, () -> x.heard(0, 2, 0));
        CHECK.due("a long tone is heard by all", 3, () -> x.heard(0, 0, 1));
        CHECK.due("heard from the other end", 3, () -> x.heard(2, 4, 0));
        CHECK.due("alone in a hall", 1, () -> x.heard(3, 9, 9));
        CHECK.due("outside", 1, () -> x.heard(4, 9, 9));
        CHECK.due("nothing was rung", 0, () -> x.account(7));
        CHECK.due("nothing was rung at all", 0, () -> x.houseOf(0, 3));
    }

    private static void rings() {
        BellObservatory x = hallTown();
        CHECK.due("rings(-1)", IMPROPER, () -> x.rings(-1));
        CHECK.due("rings(4)", IMPROPER, () -> x.rings(4));
        x.pass(5);
        x.ring(3, 1, 0);
        x.ring(3, 1, 0);
        x.ring(3, 2, 0);
        x.ring(0, 0, 3);
        x.ring(0, 0, 1);
        x.ring(4, 0, 1);
        int[] due = {2, 1, 3, 4};
        for (int kind = 0; kind < 4; kind++) {
            int number = kind;
            CHECK.due("rings(" + kind + ")", due[kind], () -> x.rings(number));
        }
    }
}
