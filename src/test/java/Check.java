import java.util.ArrayList;
import java.util.List;

/** Counts what is asked of a test, and prints every answer that is not the one that is due. */
final class Check {
    interface Call {
        Object answer();
    }

    private final String name;
    private int passed = 0;
    private int failed = 0;

    Check(String name) {
        this.name = name;
    }

    /** The answer that is due is a value, or the class of the exception that the call throws. */
    void due(String call, Object want, Call made) {
        Object got = answerOf(made);
        if (want.equals(got)) {
            passed++;
        } else {
            failed++;
            System.out.println(name + ": " + call + " answered " + got + ", due is " + want);
        }
    }

    void end() {
        System.out.println(name + ": " + passed + " checks passed, " + failed + " failed");
        if (failed > 0 || passed == 0) {
            System.exit(1);
        }
    }

    static Object answerOf(Call made) {
        try {
            return made.answer();
        } catch (RuntimeException thrown) {
            return thrown.getClass();
        }
    }

    /** Appends a text, as if it were typed. */
    static void type(BellObservatory x, String text) {
        for (char c : text.toCharArray()) {
            x.append(c);
        }
    }

    static String lineOf(BellObservatory x, int length) {
        StringBuilder line = new StringBuilder();
        for (int index = 0; index < length; index++) {
            line.append(x.character(index));
        }
        return line.toString();
    }

    static String row(BellObservatory x, int row) {
        return lineOf(x, x.line(row));
    }

    static String houseRow(BellObservatory x, int house) {
        return lineOf(x, x.houseLine(house));
    }

    /** All that changes can change, as far as the face shows it; the line is another one afterwards. */
    static String stateOf(BellObservatory x) {
        List<Object> all = new ArrayList<>();
        for (int what = 0; what <= 10; what++) {
            all.add(x.account(what));
        }
        for (int house = 0; house < x.account(2); house++) {
            for (int what = 0; what <= 5; what++) {
                all.add(x.houseOf(house, what));
            }
        }
        for (int post = 0; post < x.account(4); post++) {
            int told = post;
            all.add(x.postOf(post, 0));
            all.add(answerOf(() -> x.postOf(told, 1)));
        }
        for (int kind = 0; kind <= 3; kind++) {
            all.add(x.rings(kind));
        }
        for (int row = 0; row < 8; row++) {
            all.add(row(x, row));
        }
        return all.toString();
    }
}
