import java.lang.reflect.InvocationTargetException;
import java.lang.reflect.Method;
import java.lang.reflect.Modifier;
import java.util.ArrayList;
import java.util.List;
import java.util.Map;
import java.util.TreeMap;

/**
 * Promises 1 to 41: long runs of calls, by fixed numbers, in which each answer of the class is compared with that of
 * the model. No object is used for more than the 512 calls that are promised. The test fails, too, if a method has
 * answered too seldom without an exception for the comparison to tell anything.
 */
public final class ModelTest {
    private static final int RUNS = 3000;
    private static final int MOST_CALLS = 512;
    private static final int CALLS_AT_END = 197;
    private static final int CALLS_AT_ONCE = 65;
    private static final int LEAST_ANSWERS = 300;
    private static final String LETTERS = "hberptw0123456789/-:+=;";

    /**
     * The calls with the kinds of their arguments: c a cell, r an hour, n a house, l a lane, k a hall or post, s tones,
     * w what is asked, d hours that pass, f how far, p a place, z a truth, x a character. Those that come more often
     * stand more often.
     */
    private static final String[] CALL_KINDS = {
        "house crr", "house crr", "house crr", "house crr", "house crr", "goAway n", "block c", "block c", "block c",
        "hall lll", "hall lll", "hall lll", "dropHall k", "pass d", "pass d", "houseOf nw", "houseOf nw", "asleep rz",
        "asleep rz", "deepest", "ring nss", "ring nss", "ring nss", "ring nss", "ring nss", "classOf nrss",
        "classOf nrss", "echo nns", "echo nns", "echo nns", "echo nns", "heard nss", "heard nss", "rings w", "post c",
        "post c", "dropPost k", "tell kf", "tell kf", "tell kf", "postOf kw", "postOf kw", "fits c", "fitting z",
        "fix p", "apart cc", "way ccz", "way ccz", "round p", "round p", "steps", "ranked p", "ranked p", "line l",
        "line l", "houseLine n", "houseLine n", "character p", "character p", "character p", "append x", "run",
        "errorPosition", "refusal z", "refusal z", "account w", "account w", "account w", "isWell", "meanSleep",
        "prankShare", "undo", "undo", "save", "restore", "TEXT", "TEXT", "TEXT", "TEXT",
    };

    private static final Map<String, Integer> ANSWERS = new TreeMap<>();

    private static long seed = 1;

    private final BellObservatory x = new BellObservatory();
    private final Model model = new Model();
    private final List<String> told = new ArrayList<>();
    private boolean isAlike = true;

    public static void main(String[] args) throws Exception {
        for (int run = 1; run <= RUNS; run++) {
            seed = run;
            ModelTest test = new ModelTest();
            test.beginTown(run % 3);
            while (test.isAlike && test.told.size() + CALLS_AT_ONCE + CALLS_AT_END <= MOST_CALLS) {
                test.callOne();
            }
            test.compareAll();
            if (!test.isAlike) {
                System.out.println("ModelTest: the run " + run + " answers otherwise than the model:");
                test.told.forEach(System.out::println);
                System.exit(1);
            }
        }
        demandAnswers();
        System.out.println("ModelTest: " + RUNS + " runs answer as the model does");
    }

    private static void demandAnswers() {
        ANSWERS.putIfAbsent("a ring with echoes", 0);
        ANSWERS.putIfAbsent("a way round blocks", 0);
        for (Method method : Model.class.getDeclaredMethods()) {
            if (Modifier.isPublic(method.getModifiers())) {
                ANSWERS.putIfAbsent(method.getName(), 0);
            }
        }
        boolean isEnough = true;
        for (Map.Entry<String, Integer> entry : ANSWERS.entrySet()) {
            if (entry.getValue() < LEAST_ANSWERS) {
                System.out.println("ModelTest: only " + entry.getValue() + " answers of " + entry.getKey());
                isEnough = false;
            }
        }
        if (!isEnough) {
            System.exit(1);
        }
    }

    /** A town that begins with nothing seldom comes to halls with many houses, or to ways that are long. */
    private void beginTown(int kind) throws Exception {
        if (kind == 1) {
            beginWithHalls();
        } else if (kind == 2) {
            beginWithBlocks();
        }
    }

    private void beginWithHalls() throws Exception {
        for (int row = 2; row < 4; row++) {
            int first = any(3);
            compare("hall", row, first, 7 - any(3));
        }
        int houses = 5 + any(7);
        for (int house = 0; house < houses; house++) {
            compare("house", 16 + any(16), any(24), any(24));
        }
        compare("post", any(64));
        compare("save");
    }

    private void beginWithBlocks() throws Exception {
        int blocks = 8 + any(34);
        for (int block = 0; block < blocks; block++) {
            compare("block", any(64));
        }
        int houses = any(16);
        for (int house = 0; house < houses; house++) {
            compare("house", any(64), any(24), any(24));
        }
        compare("save");
    }

    private static int any(int end) {
        seed = seed * 6364136223846793005L + 1442695040888963407L;
        return (int) ((seed >>> 33) % end);
    }

    private void callOne() throws Exception {
        String[] parts = CALL_KINDS[any(CALL_KINDS.length)].split(" ");
        if (parts[0].equals("TEXT")) {
            typeText();
            return;
        }
        String kinds = parts.length > 1 ? parts[1] : "";
        Object[] values = new Object[kinds.length()];
        for (int i = 0; i < values.length; i++) {
            values[i] = valueOf(kinds.charAt(i));
        }
        compare(parts[0], values);
    }

    private static Object valueOf(char kind) {
        switch (kind) {
            case 'z':
                return any(2) == 1;
            case 'x':
                return any(9) == 0 ? (char) any(65536) : LETTERS.charAt(any(LETTERS.length()));
            default:
                return any(40) == 0 ? strange() : number(kind);
        }
    }

    private static int strange() {
        return new int[] {Integer.MIN_VALUE, Integer.MAX_VALUE, -1, 64, 24, 10, 8, 4, 15, 100, -64}[any(11)];
    }

    private static int number(char kind) {
        switch (kind) {
            case 'c':
                return any(3) == 0 ? any(64) : 16 + any(12);
            case 'r':
                return any(24);
            case 'n':
                return any(6) == 0 ? any(11) : any(4);
            case 'l':
                return any(4) == 0 ? any(8) : 2 + any(3);
            case 'k':
                return any(3);
            case 's':
                return any(3) == 0 ? any(10) : any(4);
            case 'w':
                return any(14) - (any(9) == 0 ? 1 : 0);
            case 'd':
                return any(3) == 0 ? 1 + any(99) : 1 + any(9);
            case 'f':
                return any(3) == 0 ? any(15) : any(5);
            default:
                return any(12) - 1;
        }
    }

    private void typeText() throws Exception {
        StringBuilder text = new StringBuilder();
        int orders = 1 + any(6);
        for (int order = 0; order < orders; order++) {
            text.append(order == 0 ? "" : ";").append(order());
        }
        if (any(4) == 0) {
            int place = any(text.length());
            text.setCharAt(place, LETTERS.charAt(any(LETTERS.length())));
        }
        if (any(8) == 0) {
            text.setLength(any(text.length() + 1));
        }
        for (char c : text.toString().toCharArray()) {
            compare("append", c);
        }
        compare("run");
        compare("errorPosition");
    }

    private static String order() {
        switch (any(10)) {
            case 0:
                return "b" + number('c');
            case 1:
                return "e" + any(8) + ":" + any(5) + "-" + (any(4) + 4);
            case 2:
                return "p" + number('c');
            case 3:
            case 4:
                return "t" + number('k') + "=" + number('f');
            case 5:
                return "w" + any(100);
            case 6:
            case 7:
                return "r" + number('n') + ":" + number('s') + "+" + number('s');
            default:
                return "h" + number('c') + "/" + (any(3) == 0 ? "0" : "") + any(10) + "-" + any(25);
        }
    }

    private void compareAll() throws Exception {
        for (int what = 0; what <= 12; what++) {
            compare("account", what);
        }
        for (int house = 0; house < 10; house++) {
            for (int what = 0; what < 8; what++) {
                compare("houseOf", house, what);
            }
            compare("round", house);
            compare("ranked", house);
        }
        for (int post = 0; post < 4; post++) {
            compare("postOf", post, 0);
            compare("postOf", post, 1);
            compare("rings", post);
        }
        for (int row = 0; row < 8; row++) {
            compare("line", row);
            for (int column = 0; column < 8; column++) {
                compare("character", column);
            }
        }
    }

    private void compare(String name, Object... values) throws Exception {
        if (!isAlike) {
            return;
        }
        Object got = answer(x, name, values);
        Object want = answer(model, name, values);
        isAlike = got.equals(want);
        count(name, values, got);
        told.add("  " + name + List.of(values) + " answers " + got + (isAlike ? "" : ", the model answers " + want));
    }

    private static void count(String name, Object[] values, Object got) {
        if (got instanceof String) {
            return;
        }
        ANSWERS.merge(name, 1, Integer::sum);
        if (name.equals("heard") && (int) got > 1) {
            ANSWERS.merge("a ring with echoes", 1, Integer::sum);
        }
        if (name.equals("way") && (int) got > new Model().apart((int) values[0], (int) values[1])) {
            ANSWERS.merge("a way round blocks", 1, Integer::sum);
        }
    }

    private static Object answer(Object made, String name, Object[] values) throws Exception {
        for (Method method : made.getClass().getDeclaredMethods()) {
            if (method.getName().equals(name) && method.getParameterCount() == values.length) {
                try {
                    return method.invoke(made, values);
                } catch (InvocationTargetException thrown) {
                    return nameOf(thrown.getCause());
                }
            }
        }
        throw new IllegalStateException("there is no method " + name);
    }

    /** The model throws a kind of its own for what is refused. */
    private static String nameOf(Throwable thrown) {
        return thrown instanceof UnsupportedOperationException
                ? UnsupportedOperationException.class.getName() : thrown.getClass().getName();
    }
}
