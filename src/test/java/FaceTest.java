import java.io.IOException;
import java.lang.reflect.Constructor;
import java.lang.reflect.Field;
import java.lang.reflect.Method;
import java.lang.reflect.Modifier;
import java.nio.file.Files;
import java.nio.file.Path;
import java.util.ArrayList;
import java.util.Arrays;
import java.util.List;
import java.util.Set;
import java.util.TreeSet;
import java.util.regex.Matcher;
import java.util.regex.Pattern;
import java.util.stream.Collectors;
import java.util.stream.Stream;

/** The public face is the document's, and the source keeps to those rules of LANGUAGE.md that its text shows. */
public final class FaceTest {
    private static final Pattern MEMBER = Pattern.compile("    public (.*?)\\((.*?)\\)( throws (.*?))?;");
    private static final Set<String> IMPORTS = Set.of(
        "import java.util.ArrayList;", "import java.util.Arrays;", "import java.util.NoSuchElementException;");
    private static final String[] BANNED = {
        "->", "::", "Exact(", "synchronized", "finally", "catch", "assert ", "Random", "System.", "Thread",
        "Object", "hashCode", "toString", "equals(", "@"};

    private static final List<String> wrong = new ArrayList<>();

    /** Takes the paths of the document and of the source. */
    public static void main(String[] args) throws IOException {
        compareFaces(Files.readString(Path.of(args[0])));
        lookAtNames();
        lookAtSource(Files.readAllLines(Path.of(args[1])));
        wrong.forEach(System.out::println);
        System.out.println("FaceTest: " + wrong.size() + " faults");
        if (!wrong.isEmpty()) {
            System.exit(1);
        }
    }

    private static void compareFaces(String document) {
        Set<String> due = new TreeSet<>();
        for (Matcher found = MEMBER.matcher(document); found.find(); ) {
            String types = Stream.of(found.group(2).split(", ")).map(p -> p.split(" ")[0])
                .collect(Collectors.joining(","));
            String thrown = found.group(4) == null ? "" : found.group(4).replace(", ", ",");
            due.add(found.group(1) + "(" + types + ") throws " + thrown);
        }
        Set<String> got = new TreeSet<>();
        for (Constructor<?> made : Shellhouse.class.getDeclaredConstructors()) {
            got.add(made.getName() + written(made.getParameterTypes(), made.getExceptionTypes()));
        }
        for (Method method : Shellhouse.class.getDeclaredMethods()) {
            if (!Modifier.isPrivate(method.getModifiers())) {
                got.add(method.getReturnType() + " " + method.getName()
                    + written(method.getParameterTypes(), method.getExceptionTypes()));
            }
        }
        if (due.size() != 36 || !due.equals(got)) {
            wrong.add("the face is\n" + String.join("\n", got) + "\nand due is\n" + String.join("\n", due));
        }
    }

    private static String written(Class<?>[] parameters, Class<?>[] thrown) {
        return "(" + names(parameters) + ") throws " + names(thrown);
    }

    private static String names(Class<?>[] types) {
        return Stream.of(types).map(Class::getSimpleName).collect(Collectors.joining(","));
    }

    private static void lookAtNames() {
        if (!Modifier.isFinal(Shellhouse.class.getModifiers())) {
            wrong.add("the class is not final");
        }
        Set<String> open = Stream.of(Shellhouse.class.getDeclaredMethods())
            .filter(m -> Modifier.isPublic(m.getModifiers())).map(Method::getName).collect(Collectors.toSet());
        List<Class<?>> all = new ArrayList<>(Arrays.asList(Shellhouse.class.getDeclaredClasses()));
        all.add(Shellhouse.class);
        for (Class<?> one : all) {
            for (Method method : one.getDeclaredMethods()) {
                if (!Modifier.isPublic(method.getModifiers()) && open.contains(method.getName())) {
                    wrong.add("a method of the inside bears the name of a public one: " + method);
                }
            }
            for (Field field : one.getDeclaredFields()) {
                if (Modifier.isStatic(field.getModifiers()) && !Modifier.isFinal(field.getModifiers())) {
                    wrong.add("a static field is not final: " + field);
                }
            }
        }
        for (Field field : Shellhouse.class.getDeclaredFields()) {
            if (!Modifier.isPrivate(field.getModifiers())) {
                wrong.add("a field is not private: " + field);
            }
        }
    }

    private static void lookAtSource(List<String> lines) {
        for (String line : lines) {
            String code = line.strip();
            if (code.startsWith("import ") && !IMPORTS.contains(code)) {
                wrong.add("not to be imported: " + code);
            }
            boolean isComment = code.startsWith("//") || code.startsWith("/*") || code.startsWith("*");
            for (String banned : BANNED) {
                if (!isComment && code.contains(banned)) {
                    wrong.add("not to be used: " + code);
                }
            }
        }
    }
}
