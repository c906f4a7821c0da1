import java.io.IOException;
import java.lang.reflect.Constructor;
import java.lang.reflect.Field;
import java.lang.reflect.Member;
import java.lang.reflect.Method;
import java.lang.reflect.Modifier;
import java.nio.file.Files;
import java.nio.file.Path;
import java.util.ArrayList;
import java.util.List;
import java.util.TreeSet;
import java.util.regex.Matcher;
import java.util.regex.Pattern;

/** The public face of the document, and those rules of the language that can be seen in the class and its file. */
public final class FaceTest {
    private static final Check CHECK = new Check("FaceTest");
    private static final Pattern METHOD =
            Pattern.compile("^( {4}| {8})(?:[a-z\\[\\]]+ )*(?:[A-Z]\\w+ )?(\\w+)\\([^;=]*$");
    private static final Pattern SIGNATURE = Pattern.compile("    public (\\w+) (\\w+)\\((.*)\\)(?: throws (.*))?;");

    public static void main(String[] args) throws IOException {
        List<String> face = new ArrayList<>();
        for (String line : Files.readAllLines(Path.of("../shared/DOC.md"))) {
            Matcher matcher = SIGNATURE.matcher(line);
            if (matcher.matches()) {
                face.add(signature(matcher));
            }
        }
        CHECK.due("methods in the document", 40, () -> face.size());
        CHECK.due("the methods", new TreeSet<>(face), () -> publicMethods());
        CHECK.due("the constructors", "[public BellObservatory()]",
                () -> List.of(BellObservatory.class.getDeclaredConstructors()).toString());
        CHECK.due("the class is public and final", Modifier.PUBLIC | Modifier.FINAL,
                () -> BellObservatory.class.getModifiers());
        members();
        classesInside();
        names();
        source(Files.readString(Path.of("src/main/java/BellObservatory.java")));
        CHECK.end();
    }

    private static String signature(Matcher matcher) {
        List<String> types = new ArrayList<>();
        for (String parameter : matcher.group(3).split(", ")) {
            types.add(parameter.split(" ")[0]);
        }
        String thrown = matcher.group(4) == null ? "" : matcher.group(4).replace(",", "");
        return matcher.group(1) + " " + matcher.group(2) + " " + String.join(",", types) + " " + thrown;
    }

    private static TreeSet<String> publicMethods() {
        TreeSet<String> all = new TreeSet<>();
        for (Method method : BellObservatory.class.getDeclaredMethods()) {
            if (Modifier.isPublic(method.getModifiers())) {
                List<String> types = new ArrayList<>();
                for (Class<?> type : method.getParameterTypes()) {
                    types.add(type.getName());
                }
                List<String> thrown = new ArrayList<>();
                for (Class<?> type : method.getExceptionTypes()) {
                    thrown.add(type.getSimpleName());
                }
                all.add(method.getReturnType().getName() + " " + method.getName() + " " + String.join(",", types) + " "
                        + String.join(" ", thrown));
            }
        }
        return all;
    }

    private static void members() {
        for (Field field : BellObservatory.class.getDeclaredFields()) {
            CHECK.due("the field " + field.getName() + " is private", true, () -> isPrivate(field));
        }
        for (Method method : BellObservatory.class.getDeclaredMethods()) {
            CHECK.due("the method " + method.getName() + " is public or private", true,
                    () -> isPrivate(method) || Modifier.isPublic(method.getModifiers()));
            CHECK.due("the method " + method.getName() + " takes few parameters", true,
                    () -> method.getParameterCount() <= 7);
        }
    }

    private static boolean isPrivate(Member member) {
        return Modifier.isPrivate(member.getModifiers());
    }

    private static void classesInside() {
        Class<?>[] inside = BellObservatory.class.getDeclaredClasses();
        CHECK.due("some twelve classes", true, () -> inside.length < 12);
        for (Class<?> type : inside) {
            CHECK.due(type.getName() + " is static", true, () -> Modifier.isStatic(type.getModifiers()));
            int fields = 0;
            for (Field field : type.getDeclaredFields()) {
                boolean isStatic = Modifier.isStatic(field.getModifiers());
                fields += isStatic ? 0 : 1;
                CHECK.due("the static field " + field.getName() + " is final", true,
                        () -> !isStatic || Modifier.isFinal(field.getModifiers()));
            }
            int count = fields;
            CHECK.due(type.getName() + " has some twenty fields", true, () -> count <= 20);
            for (Constructor<?> constructor : type.getDeclaredConstructors()) {
                CHECK.due("its constructor takes nothing", 0, () -> constructor.getParameterCount());
            }
        }
    }

    /** No other method bears the name of a public one. */
    private static void names() {
        TreeSet<String> face = new TreeSet<>();
        for (String signature : publicMethods()) {
            face.add(signature.split(" ")[1]);
        }
        List<Class<?>> all = new ArrayList<>(List.of(BellObservatory.class.getDeclaredClasses()));
        all.add(BellObservatory.class);
        for (Class<?> type : all) {
            for (Method method : type.getDeclaredMethods()) {
                CHECK.due(type.getName() + "." + method.getName() + " has a name of its own", true,
                        () -> Modifier.isPublic(method.getModifiers()) || !face.contains(method.getName()));
            }
        }
    }

    private static void source(String text) {
        String code = text.replaceAll("(?s)/\\*.*?\\*/", "").replaceAll("//.*", "");
        String[] wrong = {"->", "::", "\\btry\\b", "\\bcatch\\b", "\\bfinally\\b", "\\bassert\\b", "\\bsynchronized\\b",
            "\\bstatic \\{", "\\bprotected\\b", "\\bpackage\\b", "Exact\\(", "\\bthrow [^n]",
            "\\.length\\(\\) \\+ \"", "\" \\+", "\\+ \""};
        for (String pattern : wrong) {
            CHECK.due("the code has no " + pattern, false, () -> Pattern.compile(pattern).matcher(code).find());
        }
        CHECK.due("one import", "[import java.util.NoSuchElementException;]",
                () -> Pattern.compile("(?m)^import .*$").matcher(code).results().map(r -> r.group()).toList().toString());
        CHECK.due("signs from 1 to 127", true, () -> text.chars().allMatch(c -> c >= 1 && c <= 127));
        CHECK.due("what calls make, but for exceptions", List.of(), () -> madeInCalls(code));
        CHECK.due("methods of more than sixty lines", List.of(), () -> longMethods(code));
    }

    /** All that is made stands in a field's own line or in a constructor, so that a run's calls can't fill its room. */
    private static List<String> madeInCalls(String code) {
        List<String> made = new ArrayList<>();
        String method = "";
        for (String line : code.split("\n")) {
            Matcher head = METHOD.matcher(line);
            if (head.find()) {
                method = head.group(2);
            }
            boolean isConstructor = method.matches("[A-Z].*");
            boolean isField = line.matches(" +private final .* = new .*;");
            if (line.matches(".*\\bnew .*") && !line.contains("throw new ") && !isConstructor && !isField) {
                made.add(line.trim());
            }
        }
        return made;
    }

    private static List<String> longMethods(String code) {
        List<String> found = new ArrayList<>();
        String[] lines = code.split("\n");
        for (int start = 0; start < lines.length; start++) {
            Matcher head = METHOD.matcher(lines[start]);
            if (head.find()) {
                int end = start;
                while (end < lines.length && !lines[end].equals(head.group(1) + "}")) {
                    end++;
                }
                if (end - start >= 60) {
                    found.add(head.group(2));
                }
            }
        }
        return found;
    }
}
