import java.io.IOException;
import java.lang.reflect.InvocationTargetException;
import java.lang.reflect.Method;
import java.lang.reflect.Modifier;
import java.nio.file.Files;
import java.nio.file.Path;
import java.util.HashMap;
import java.util.Map;
import java.util.Set;
import java.util.TreeSet;
import java.util.regex.Matcher;
import java.util.regex.Pattern;

/** README.md holds: each call that it shows answers what stands behind it, and it names every method and test. */
public final class ReadmeTest {
    private static final Check CHECK = new Check();
    private static final Pattern NEW = Pattern.compile("PlyHouse house = new PlyHouse\\(\\);");
    private static final Pattern CALL = Pattern.compile("house\\.(\\w+)\\(([^)]*)\\); +// (true|false|-?\\d+)\\b.*");
    private static final Pattern TOLD = Pattern.compile("`(\\w+)\\(([^)`]*)\\)`");

    private final Map<String, Method> face = new HashMap<>();
    private final Set<String> shown = new TreeSet<>();
    private PlyHouse house;

    public static void main(String[] args) throws IOException, ReflectiveOperationException {
        String readme = Files.readString(Path.of("README.md"));
        ReadmeTest test = new ReadmeTest();
        for (Method method : PlyHouse.class.getDeclaredMethods()) {
            if (Modifier.isPublic(method.getModifiers())) {
                test.face.put(method.getName(), method);
            }
        }
        test.makeCalls(readme);
        test.everyMethodIsTold(readme);
        testsAreRunAsTold(readme);
        CHECK.finish("ReadmeTest");
    }

    private void makeCalls(String readme) throws ReflectiveOperationException {
        boolean inside = false;
        for (String line : readme.split("\n")) {
            if (line.startsWith("```")) {
                inside = line.equals("```java");
                house = null;
            } else if (inside) {
                makeCall(line);
            }
        }
        CHECK.due("methods shown", shown.size() >= face.size() / 2, true);
    }

    private void makeCall(String line) throws ReflectiveOperationException {
        if (NEW.matcher(line).matches()) {
            house = new PlyHouse();
            return;
        }
        Matcher call = CALL.matcher(line);
        boolean can = call.matches() && house != null && face.containsKey(call.group(1));
        CHECK.due("a call with its answer: " + line, can, true);
        if (can) {
            shown.add(call.group(1));
            CHECK.due(line, answer(face.get(call.group(1)), call.group(2)).equals(call.group(3)), true);
        }
    }

    private String answer(Method method, String told) throws IllegalAccessException, InvocationTargetException {
        String[] texts = told.isEmpty() ? new String[0] : told.split(", ");
        Object[] values = new Object[texts.length];
        for (int at = 0; at < texts.length; at++) {
            boolean truth = texts[at].equals("true") || texts[at].equals("false");
            values[at] = truth ? (Object) Boolean.valueOf(texts[at]) : (Object) number(texts[at]);
        }
        return String.valueOf(method.invoke(house, values));
    }

    /** As Java reads it: binary, hexadecimal, octal or decimal. */
    private static Integer number(String text) {
        return text.startsWith("0b") ? Integer.valueOf(text.substring(2), 2) : Integer.decode(text);
    }

    private void everyMethodIsTold(String readme) {
        Set<String> names = new TreeSet<>();
        Matcher told = TOLD.matcher(readme);
        while (told.find()) {
            String name = told.group(1);
            int count = told.group(2).isEmpty() ? 0 : told.group(2).split(", ").length;
            names.add(name);
            boolean so = face.containsKey(name) && face.get(name).getParameterCount() == count;
            CHECK.due("parameters of " + name, so, true);
        }
        CHECK.due("every method is told: " + names, names.equals(new TreeSet<>(face.keySet())), true);
    }

    private static void testsAreRunAsTold(String readme) {
        CHECK.due("the script is told", readme.contains("\n.ci/run\n"), true);
        CHECK.due("the script is there", Files.exists(Path.of(".ci/run")), true);
        for (String name : new String[] {"RunsTest", "ReadmeTest"}) {
            CHECK.due(name + " is told", readme.contains("`" + name + "`"), true);
            CHECK.due(name + " is there", Files.exists(Path.of("src/test/java", name + ".java")), true);
        }
    }
}
