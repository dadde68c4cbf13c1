import java.util.ArrayList;
import java.util.List;
import java.util.regex.Matcher;
import java.util.regex.Pattern;

/** Grades as texts, whose e is worked out each time by splitting it at its weakest word. */
final class GradeModel {
    private static final Pattern LINE = Pattern.compile("grade ?([0-9]+) ?worth ?([0-9]+) ?(?:when([^;]*))?;");

    final List<Integer> widths = new ArrayList<>();
    final List<Integer> worths = new ArrayList<>();
    final List<String> whens = new ArrayList<>();

    /** A text without a fault. */
    GradeModel(String text) {
        Matcher line = LINE.matcher(text.replaceAll("[ \n]+", " "));
        while (line.find()) {
            widths.add(Integer.parseInt(line.group(1)));
            worths.add(Integer.parseInt(line.group(2)));
            whens.add(line.group(3) == null ? "1=1" : line.group(3));
        }
    }

    boolean isSheet(String leaf, int from, int line, int patched, int patches) {
        String part = leaf.substring(from, from + widths.get(line));
        String left = part;
        for (int hole = 0; hole < patched; hole++) {
            left = left.replaceFirst("o", "p");
        }
        long holes = part.chars().filter(sign -> sign == 'o').count();
        return patched <= patches && patched <= holes && holds(whens.get(line), left);
    }

    private static boolean holds(String e, String part) {
        int at = splitAt(e, "or");
        if (at >= 0) {
            return holds(e.substring(0, at), part) | holds(e.substring(at + 2), part);
        }
        at = splitAt(e, "and");
        if (at >= 0) {
            return holds(e.substring(0, at), part) & holds(e.substring(at + 3), part);
        }
        String one = e.trim();
        if (one.startsWith("not")) {
            return !holds(one.substring(3), part);
        }
        if (one.startsWith("(")) {
            return holds(one.substring(1, one.length() - 1), part);
        }
        String[] sums = one.split("[<>=]");
        int order = Integer.signum(sum(sums[0], part) - sum(sums[1], part));
        return order == (one.contains("<") ? -1 : one.contains(">") ? 1 : 0);
    }

    /** Where a word stands outside all ( ). */
    private static int splitAt(String e, String word) {
        int open = 0;
        for (int at = 0; at < e.length(); at++) {
            open += e.charAt(at) == '(' ? 1 : e.charAt(at) == ')' ? -1 : 0;
            if (open == 0 && e.startsWith(word, at)) {
                return at;
            }
        }
        return -1;
    }

    private static int sum(String text, String part) {
        int sum = 0;
        for (String term : text.replace(" ", "").replace("-", "+-").split("\\+")) {
            boolean away = term.startsWith("-");
            int value = term(away ? term.substring(1) : term, part);
            sum += away ? -value : value;
        }
        return sum;
    }

    private static int term(String term, String part) {
        int at = List.of("knots", "splits", "holes", "plugs").indexOf(term);
        if (at >= 0) {
            return (int) part.chars().filter(sign -> sign == "ksop".charAt(at)).count();
        }
        if (!term.equals("run")) {
            return Integer.parseInt(term);
        }
        int longest = 0;
        for (String run : part.split("[^.]")) {
            longest = Math.max(longest, run.length());
        }
        return longest;
    }
}
