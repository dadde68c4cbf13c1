import java.util.ArrayDeque;
import java.util.Deque;
import java.util.Random;
import java.util.regex.Matcher;
import java.util.regex.Pattern;

/** Texts of grades made at random, and a model that finds their first fault by states, not by recursion. */
final class GradeText {
    private static final Pattern TOKEN = Pattern.compile("([a-z]+)|([0-9]+)|([;()<>=+-])");
    private static final String[] TERMS = {"knots", "splits", "holes", "plugs", "run"};

    private enum State { LINE, WIDTH, WORTH, VALUE, WHEN, ONE, LEFT, RIGHT, LEFT_DONE, RIGHT_DONE, ONE_DONE }

    private final Deque<Integer> groups = new ArrayDeque<>();
    private State state = State.LINE;
    private int lines;
    private int terms;
    private int depth;

    private GradeText() {
    }

    /** {fault, place}, or {0, lines} of a text without one. */
    static int[] faultOf(String text) {
        GradeText model = new GradeText();
        int at = 0;
        while (at < text.length()) {
            char sign = text.charAt(at);
            if (sign == ' ' || sign == '\n') {
                at++;
                continue;
            }
            Matcher matcher = TOKEN.matcher(text).region(at, text.length());
            if (!matcher.lookingAt()) {
                return new int[] {1, at};
            }
            String token = matcher.group();
            boolean letter = matcher.end() < text.length() && isLetter(text.charAt(matcher.end()));
            if (matcher.group(1) != null && token.length() > 8
                || matcher.group(2) != null && (token.length() > 4 || letter)) {
                return new int[] {1, at};
            }
            int fault = model.step(token);
            if (fault != 0) {
                return new int[] {fault, at};
            }
            at = matcher.end();
        }
        return model.state == State.LINE ? new int[] {0, model.lines} : new int[] {2, text.length()};
    }

    private static boolean isLetter(char sign) {
        return sign >= 'a' && sign <= 'z';
    }

    private int step(String token) {
        boolean number = Character.isDigit(token.charAt(0));
        int value = number ? Integer.parseInt(token) : 0;
        switch (state) {
            case LINE:
                lines++;
                return lines > 8 ? 2 : go(token.equals("grade"), State.WIDTH);
            case WIDTH:
                return number && (value < 1 || value > 100) ? 3 : go(number, State.WORTH);
            case WORTH:
                return go(token.equals("worth"), State.VALUE);
            case VALUE:
                return number && value < 1 ? 3 : go(number, State.WHEN);
            case WHEN:
                depth = 0;
                groups.clear();
                return token.equals("when") ? go(true, State.ONE) : go(token.equals(";"), State.LINE);
            case ONE:
                return stepOne(token);
            case LEFT:
                return go(isTerm(token), State.LEFT_DONE);
            case RIGHT:
                return go(isTerm(token), State.RIGHT_DONE);
            case LEFT_DONE:
                if (token.equals("+") || token.equals("-")) {
                    return go(true, State.LEFT);
                }
                return go("<>=".contains(token), State.RIGHT);
            case RIGHT_DONE:
                return token.equals("+") || token.equals("-") ? go(true, State.RIGHT) : stepDone(token);
            default:
                return stepDone(token);
        }
    }

    private int stepOne(String token) {
        if (depth >= 6) {
            return 2;
        }
        if (token.equals("not")) {
            depth++;
            return 0;
        }
        if (token.equals("(")) {
            depth++;
            groups.push(depth);
            return 0;
        }
        return go(isTerm(token), State.LEFT_DONE);
    }

    private int stepDone(String token) {
        if (token.equals("and") || token.equals("or")) {
            depth = groups.isEmpty() ? 0 : groups.peek();
            return go(true, State.ONE);
        }
        if (token.equals(")") && !groups.isEmpty()) {
            groups.pop();
            return go(true, State.ONE_DONE);
        }
        return go(token.equals(";") && groups.isEmpty(), State.LINE);
    }

    private boolean isTerm(String token) {
        boolean term = Character.isDigit(token.charAt(0)) || java.util.Arrays.asList(TERMS).contains(token);
        terms += term ? 1 : 0;
        return term && terms <= 60;
    }

    private int go(boolean stands, State next) {
        state = next;
        return stands ? 0 : 2;
    }

    static String random(Random random, int lines, int depth) {
        StringBuilder text = new StringBuilder();
        for (int line = 0; line < lines; line++) {
            text.append("grade ").append(1 + random.nextInt(8)).append(blank(random)).append(" worth ")
                .append(1 + random.nextInt(20));
            if (random.nextInt(4) > 0) {
                text.append(" when ").append(either(random, depth));
            }
            text.append(blank(random)).append(";");
        }
        return text.toString();
    }

    private static String blank(Random random) {
        String[] blanks = {"", "", " ", "\n"};
        return blanks[random.nextInt(blanks.length)];
    }

    private static String either(Random random, int depth) {
        String text = both(random, depth);
        for (int more = random.nextInt(4); more == 3; more = random.nextInt(4)) {
            text += " or " + both(random, depth);
        }
        return text;
    }

    private static String both(Random random, int depth) {
        String text = one(random, depth);
        for (int more = random.nextInt(4); more == 3; more = random.nextInt(4)) {
            text += " and " + one(random, depth);
        }
        return text;
    }

    private static String one(Random random, int depth) {
        int way = depth <= 0 ? 2 : random.nextInt(3);
        if (way == 0) {
            return "not " + one(random, depth - 1);
        }
        if (way == 1) {
            return "(" + blank(random) + either(random, depth - 1) + blank(random) + ")";
        }
        return sum(random) + blank(random) + "<>=".charAt(random.nextInt(3)) + blank(random) + sum(random);
    }

    private static String sum(Random random) {
        String text = term(random);
        for (int more = random.nextInt(3); more == 2; more = random.nextInt(3)) {
            text += blank(random) + "+-".charAt(random.nextInt(2)) + blank(random) + term(random);
        }
        return text;
    }

    private static String term(Random random) {
        return random.nextInt(3) == 0 ? "" + random.nextInt(4) : TERMS[random.nextInt(TERMS.length)];
    }
}
