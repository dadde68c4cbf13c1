import java.io.IOException;
import java.lang.reflect.Member;
import java.lang.reflect.Modifier;
import java.nio.file.Files;
import java.nio.file.Path;
import java.util.List;
import java.util.Set;
import java.util.TreeSet;
import java.util.regex.Matcher;
import java.util.regex.Pattern;

/** What of LANGUAGE.md can be looked at from outside: the face, words that may not stand, how long methods are. */
public final class SourceTest {
    private static final Check CHECK = new Check();
    private static final int LONGEST_METHOD = 60;

    public static void main(String[] args) throws IOException {
        face();
        String source = Files.readString(Path.of("src/main/java/PlyHouse.java"));
        String code = source.replaceAll("(?s)/\\*.*?\\*/", "").replaceAll("//[^\n]*", "");
        words(code);
        methods(code);
        CHECK.finish("SourceTest");
    }

    private static void face() {
        Set<String> names = new TreeSet<>();
        for (Member member : PlyHouse.class.getDeclaredMethods()) {
            if (!Modifier.isPrivate(member.getModifiers())) {
                names.add(member.getName());
                CHECK.due("public " + member.getName(), Modifier.isPublic(member.getModifiers()), true);
            }
        }
        CHECK.due("the face", String.join(" ", names).equals("about best board centre clipped drop end fault feed full"
            + " glue grades leaf load net patch plan press sheet sheets veneer warp worth"), true);
        for (Member member : PlyHouse.class.getDeclaredFields()) {
            boolean hidden = Modifier.isPrivate(member.getModifiers());
            CHECK.due("field " + member.getName(), hidden, !member.getName().equals("NONE"));
        }
        for (Class<?> inside : PlyHouse.class.getDeclaredClasses()) {
            CHECK.due("static " + inside.getName(), Modifier.isStatic(inside.getModifiers()), true);
            for (Member member : inside.getDeclaredMethods()) {
                CHECK.due("name " + member.getName(), names.contains(member.getName()), false);
            }
            CHECK.due("fields of " + inside.getName(), inside.getDeclaredFields().length <= 24, true);
        }
        CHECK.due("classes", PlyHouse.class.getDeclaredClasses().length <= 11, true);
        CHECK.due("NONE", PlyHouse.NONE, -1);
    }

    private static void words(String code) {
        for (String word : List.of("throw", "throws", "try", "catch", "synchronized", "assert", "System", "Object",
            "import", "package", "float", "double", "Thread", "Random", "static \\{", "->", "::", "instanceof", "do")) {
            Matcher matcher = Pattern.compile(word.matches("\\w+") ? "\\b" + word + "\\b" : word).matcher(code);
            CHECK.due("the word " + word, matcher.find(), false);
        }
        CHECK.due("signs 1 to 127", code.chars().allMatch(sign -> sign > 0 && sign < 128), true);
    }

    private static void methods(String code) {
        String[] lines = code.split("\n");
        int begun = -1;
        for (int line = 0; line < lines.length; line++) {
            if (lines[line].matches(" +(public|private) [^=;]*\\) \\{")) {
                begun = line;
                CHECK.due("parameters: " + lines[line].trim(), lines[line].split(",").length <= 7, true);
            }
            if (begun >= 0 && lines[line].matches(" {4}( {4})?\\}")) {
                CHECK.due("length: " + lines[begun].trim(), line - begun < LONGEST_METHOD, true);
            }
        }
    }
}
