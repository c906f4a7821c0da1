import java.lang.reflect.InvocationTargetException;
import java.lang.reflect.Method;
import java.util.ArrayList;
import java.util.List;

/**
 * One object and the calls on it, each given as a text: a call of the face, or one of the names below that stand for
 * several calls. A range "a..b" stands for one call for each of its numbers.
 *
 * <ul>
 * <li>type(..) appends all characters, and answers as the last one does; text(..) runs them then
 * <li>row(n) and houseRow(n) write a line and answer its characters
 * <li>keep() keeps what changes can change, kept() tells whether it is still so
 * </ul>
 */
final class Script {
    private static final int MOST_CALLS = 512;

    private final BellObservatory x = new BellObservatory();
    private int calls = 0;
    private String state = "";

    /** The answers of the calls that a text stands for. */
    List<String> answers(String call) {
        int open = call.indexOf('(');
        String name = call.substring(0, open);
        String inside = call.substring(open + 1, call.length() - 1);
        switch (name) {
            case "type":
                return List.of(type(inside));
            case "text":
                type(inside);
                return List.of(answer("run"));
            case "row":
                return List.of(written("line", Integer.parseInt(inside)));
            case "houseRow":
                return List.of(written("houseLine", Integer.parseInt(inside)));
            case "keep":
                state = state();
                return List.of("");
            case "kept":
                return List.of(String.valueOf(state.equals(state())));
            default:
                return answersOf(name, inside.isEmpty() ? new String[0] : inside.split(", "));
        }
    }

    private List<String> answersOf(String name, String[] words) {
        for (int place = 0; place < words.length; place++) {
            if (words[place].matches("-?\\d+\\.\\.\\d+")) {
                String[] ends = words[place].split("\\.\\.");
                List<String> all = new ArrayList<>();
                for (int number = Integer.parseInt(ends[0]); number <= Integer.parseInt(ends[1]); number++) {
                    words[place] = String.valueOf(number);
                    all.addAll(answersOf(name, words.clone()));
                }
                return all;
            }
        }
        Object[] values = new Object[words.length];
        for (int place = 0; place < words.length; place++) {
            values[place] = valueOf(words[place]);
        }
        return List.of(answer(name, values));
    }

    private static Object valueOf(String word) {
        switch (word) {
            case "true":
                return true;
            case "false":
                return false;
            case "LEAST":
                return Integer.MIN_VALUE;
            case "MOST":
                return Integer.MAX_VALUE;
            default:
                break;
        }
        if (word.startsWith("#")) {
            return (char) Integer.parseInt(word.substring(1));
        }
        return word.startsWith("'") ? (Object) word.charAt(1) : (Object) Integer.valueOf(word);
    }

    private String type(String text) {
        String answer = "";
        for (char c : text.toCharArray()) {
            answer = answer("append", c);
        }
        return answer;
    }

    private String written(String name, int number) {
        String length = answer(name, number);
        if (!length.matches("\\d+")) {
            return length;
        }
        StringBuilder line = new StringBuilder();
        for (int index = 0; index < Integer.parseInt(length); index++) {
            line.append(answer("character", index).charAt(1));
        }
        return "\"" + line + "\"";
    }

    private String state() {
        List<String> all = new ArrayList<>();
        for (int what = 0; what <= 10; what++) {
            all.add(answer("account", what));
        }
        for (int house = 0; house < Integer.parseInt(all.get(2)); house++) {
            for (int what = 0; what <= 5; what++) {
                all.add(answer("houseOf", house, what));
            }
        }
        for (int post = 0; post < Integer.parseInt(all.get(4)); post++) {
            all.add(answer("postOf", post, 0));
            all.add(answer("postOf", post, 1));
        }
        for (int kind = 0; kind <= 3; kind++) {
            all.add(answer("rings", kind));
        }
        for (int row = 0; row < 8; row++) {
            all.add(written("line", row));
        }
        return all.toString();
    }

    private String answer(String name, Object... values) {
        calls++;
        if (calls > MOST_CALLS) {
            throw new IllegalStateException("a run has more than " + MOST_CALLS + " calls");
        }
        for (Method method : BellObservatory.class.getMethods()) {
            if (method.getName().equals(name) && method.getParameterCount() == values.length) {
                return answer(method, values);
            }
        }
        throw new IllegalStateException("there is no method " + name);
    }

    private String answer(Method method, Object[] values) {
        try {
            Object got = method.invoke(x, values);
            return got instanceof Character ? "'" + got + "'" : String.valueOf(got);
        } catch (InvocationTargetException thrown) {
            return thrown.getCause().getClass().getSimpleName();
        } catch (IllegalAccessException hidden) {
            throw new IllegalStateException(hidden);
        }
    }
}
