import java.util.ArrayList;
import java.util.Arrays;
import java.util.HashMap;
import java.util.List;
import java.util.Map;

/** The whole house in its plainest form: nothing is kept between calls but what has been told. */
final class HouseModel {
    private final boolean[][] cells = new boolean[24][24];
    private final StringBuilder tape = new StringBuilder();
    private final int[][] veneers = new int[6][];
    private final List<int[]> boards = new ArrayList<>();
    private int[] press = {1, 10, 1, 60};
    private GradeModel grading = new GradeModel("");
    private String marks = "";
    private int patches;
    private int cost = 1;
    private int fault;
    private int place = -1;

    HouseModel() {
        for (int kind = 0; kind < 6; kind++) {
            veneers[kind] = new int[] {10, 0, 1, 1};
        }
    }

    private static boolean within(long value, long low, long high) {
        return low <= value && value <= high;
    }

    private static int pick(int what, int... answers) {
        return within(what, 0, answers.length - 1) ? answers[what] : -1;
    }

    boolean net(int row, int bits) {
        if (!within(row, 0, 23) || !within(bits, 0, 0xffffff)) {
            return false;
        }
        for (int column = 0; column < 24; column++) {
            cells[row][column] = (bits >> column & 1) == 1;
        }
        return true;
    }

    private int[] centreCell() {
        for (int radius = 11; radius >= 0; radius--) {
            for (int row = 0; row < 24; row++) {
                for (int column = 0; column < 24; column++) {
                    if (discFits(row, column, radius)) {
                        return new int[] {row, column, radius};
                    }
                }
            }
        }
        return new int[] {-1, -1, -1};
    }

    private boolean discFits(int row, int column, int radius) {
        for (int down = -radius; down <= radius; down++) {
            for (int right = -radius; right <= radius; right++) {
                boolean there = within(row + down, 0, 23) && within(column + right, 0, 23)
                    && cells[row + down][column + right];
                if (!there && down * down + right * right <= radius * radius) {
                    return false;
                }
            }
        }
        return true;
    }

    int centre(int what) {
        return pick(what, centreCell());
    }

    int full(int core, int thick) {
        int radius = centreCell()[2];
        if (!within(core, 1, 200) || !within(thick, 1, 50) || radius < 0) {
            return -1;
        }
        double outer = 10 * radius + 5;
        return core >= outer ? 0 : (int) Math.floor((outer * outer - core * core) * 22 / (7 * thick));
    }

    int feed(int... words) {
        if (tape.length() > 580) {
            return -1;
        }
        for (int at = 0; at < 20; at++) {
            tape.append((char) (words[at / 4] >> 24 - at % 4 * 8 & 255));
        }
        return tape.length();
    }

    int end(int n) {
        if (!within(n, 0, tape.length())) {
            return -1;
        }
        tape.setLength(n);
        return n;
    }

    private String takeTape() {
        String text = tape.toString();
        tape.setLength(0);
        return text;
    }

    int grades() {
        String text = takeTape();
        int[] found = GradeText.faultOf(text);
        fault = found[0];
        place = fault == 0 ? -1 : found[1];
        if (fault != 0) {
            return -1;
        }
        grading = new GradeModel(text);
        return grading.widths.size();
    }

    int leaf() {
        String text = takeTape();
        int good = 0;
        while (good < text.length() && good < 300 && ".ksop".indexOf(text.charAt(good)) >= 0) {
            good++;
        }
        fault = good == text.length() ? 0 : 1;
        place = good == text.length() ? -1 : good;
        if (fault == 0) {
            marks = text;
        }
        return fault == 0 ? good : -1;
    }

    int fault(int what) {
        return pick(what, fault, place);
    }

    boolean patch(int most, int each) {
        if (!within(most, 0, 3) || !within(each, 0, 100)) {
            return false;
        }
        patches = most;
        cost = each;
        return true;
    }

    int sheet(int from, int grade, int patched) {
        if (!within(patched, 0, 3) || !within(grade, 0, grading.widths.size() - 1)
            || !within(from, 0, (long) marks.length() - grading.widths.get(grade))) {
            return -1;
        }
        return grading.isSheet(marks, from, grade, patched, patches) ? 1 : 0;
    }

    /** The best ways from each mark on, from the last one back: a way is its worth and its sheets. */
    private List<int[]> clip() {
        List<List<int[]>> ways = new ArrayList<>();
        for (int at = 0; at <= marks.length(); at++) {
            ways.add(new ArrayList<>());
        }
        for (int at = marks.length() - 1; at >= 0; at--) {
            List<int[]> best = ways.get(at + 1);
            for (int line = 0; line < grading.widths.size(); line++) {
                for (int patched = 0; patched < 4; patched++) {
                    if (sheet(at, line, patched) != 1) {
                        continue;
                    }
                    List<int[]> way = new ArrayList<>();
                    way.add(new int[] {at, line, patched});
                    way.addAll(ways.get(at + grading.widths.get(line)));
                    best = isBetter(way, best) ? way : best;
                }
            }
            ways.set(at, best);
        }
        return ways.get(0);
    }

    private int worthOf(List<int[]> way) {
        int worth = 0;
        for (int[] sheet : way) {
            worth += grading.worths.get(sheet[1]) - cost * sheet[2];
        }
        return worth;
    }

    private boolean isBetter(List<int[]> a, List<int[]> b) {
        int order = Integer.compare(worthOf(b), worthOf(a));
        order = order != 0 ? order : Integer.compare(a.size(), b.size());
        for (int k = 0; k < a.size() && order == 0; k++) {
            order = Arrays.compare(a.get(k), b.get(k));
        }
        return order < 0;
    }

    int worth() {
        return worthOf(clip());
    }

    int sheets() {
        return clip().size();
    }

    int clipped(int k, int what) {
        List<int[]> way = clip();
        return within(k, 0, way.size() - 1) ? pick(what, way.get(k)) : -1;
    }

    boolean veneer(int kind, int thick, int off, int price, boolean fair) {
        if (!within(kind, 0, 5) || !within(thick, 1, 90) || !within(off, 0, 20) || off > thick
            || !within(price, 0, 1000)) {
            return false;
        }
        veneers[kind] = new int[] {thick, off, price, fair ? 1 : 0};
        return true;
    }

    /** The layers from the lowest on; null if there is no such board. */
    private static int[] layersOf(int n, int kinds) {
        if (!within(n, 1, 9) || kinds < 0) {
            return null;
        }
        int[] layers = new int[n];
        String digits = Integer.toOctalString(kinds);
        for (int at = 0; at < digits.length(); at++) {
            int digit = digits.charAt(digits.length() - 1 - at) - '0';
            if (at >= n || digit > 5) {
                return null;
            }
            layers[at] = digit;
        }
        return layers;
    }

    private int[] sumsOf(int[] layers) {
        int[] sums = new int[3];
        for (int kind : layers) {
            sums[0] += veneers[kind][0] - veneers[kind][1];
            sums[1] += veneers[kind][0] + veneers[kind][1];
            sums[2] += veneers[kind][2];
        }
        return sums;
    }

    int board(int n, int kinds, int what) {
        int[] layers = layersOf(n, kinds);
        return layers == null ? -1 : pick(what, sumsOf(layers));
    }

    int warp(int n, int kinds) {
        int[] layers = layersOf(n, kinds);
        if (layers == null) {
            return -2000000;
        }
        int warp = 0;
        for (int layer = 0; layer < n; layer++) {
            for (int other = 0; other < n; other++) {
                int pull = veneers[layers[layer]][0] * veneers[layers[other]][0] * Integer.compare(layer, other);
                warp += layer % 2 == 0 ? pull : -pull;
            }
        }
        return warp;
    }

    int best(int n, int low, int high) {
        if (!within(n, 1, 9) || n % 2 == 0) {
            return -1;
        }
        int best = -1;
        int bestPrice = 0;
        int half = n / 2 + 1;
        // The lowest layer in the highest digit, so that the first by KINDS comes first.
        for (int way = 0; way < 1 << 3 * half; way++) {
            int told = 0;
            for (int layer = 0; layer < half; layer++) {
                int kind = way >> 3 * (half - 1 - layer) & 7;
                told |= kind << 3 * layer | kind << 3 * (n - 1 - layer);
            }
            int[] layers = layersOf(n, told);
            if (layers == null || veneers[layers[0]][3] == 0) {
                continue;
            }
            int[] sums = sumsOf(layers);
            if (sums[0] >= low && sums[1] <= high && (best < 0 || sums[2] < bestPrice)) {
                best = told;
                bestPrice = sums[2];
            }
        }
        return best;
    }

    boolean press(int openings, int base, int per, int life) {
        if (!within(openings, 1, 10) || !within(base, 0, 100) || !within(per, 0, 10) || !within(life, 1, 1000)) {
            return false;
        }
        press = new int[] {openings, base, per, life};
        return true;
    }

    int glue(int thick, int minute) {
        if (!within(thick, 1, 500) || !within(minute, 0, 10000) || boards.size() == 10) {
            return -1;
        }
        boards.add(new int[] {thick, minute});
        return boards.size() - 1;
    }

    boolean drop() {
        if (boards.isEmpty()) {
            return false;
        }
        boards.remove(boards.size() - 1);
        return true;
    }

    /** When a load can be put in from a minute on; -1 if it can't. */
    private int putIn(int load, int free) {
        int time = free;
        int thick = 0;
        for (int number = 0; number < boards.size(); number++) {
            if ((load >> number & 1) == 1) {
                time = Math.max(time, boards.get(number)[1]);
                if (thick != 0 && thick != boards.get(number)[0]) {
                    return -1;
                }
                thick = boards.get(number)[0];
            }
        }
        boolean alive = Integer.bitCount(load) <= press[0];
        for (int number = 0; number < boards.size(); number++) {
            alive &= (load >> number & 1) == 0 || time - boards.get(number)[1] <= press[3];
        }
        return alive ? time : -1;
    }

    private int takes(int load) {
        return press[1] + press[2] * boards.get(Integer.numberOfTrailingZeros(load))[0];
    }

    /** By set of boards: {out, last load, when it is put in} of the way by which all are out soonest. */
    private Map<Integer, int[]> endings() {
        Map<Integer, int[]> endings = new HashMap<>();
        endings.put(0, new int[] {0, 0, 0});
        for (int set = 1; set < 1 << boards.size(); set++) {
            for (int load = set; load > 0; load = load - 1 & set) {
                int[] ahead = endings.get(set - load);
                int time = ahead == null ? -1 : putIn(load, ahead[0]);
                int[] known = endings.get(set);
                // Lesser loads come later here, so a like one takes the place of a greater one.
                if (time >= 0 && (known == null || time + takes(load) <= known[0])) {
                    endings.put(set, new int[] {time + takes(load), load, time});
                }
            }
        }
        return endings;
    }

    /** {out, boards}, then the loads, each {boards, put in}. */
    private List<int[]> planned() {
        Map<Integer, int[]> endings = endings();
        int chosen = 0;
        for (int set = 1; set < 1 << boards.size(); set++) {
            int more = Integer.bitCount(set) - Integer.bitCount(chosen);
            boolean can = endings.containsKey(set);
            if (can && (more > 0 || more == 0 && endings.get(set)[0] < endings.get(chosen)[0])) {
                chosen = set;
            }
        }
        List<int[]> planned = new ArrayList<>();
        for (int set = chosen; set > 0; set -= endings.get(set)[1]) {
            planned.add(0, new int[] {endings.get(set)[1], endings.get(set)[2]});
        }
        planned.add(0, new int[] {endings.get(chosen)[0], chosen});
        return planned;
    }

    int plan(int what) {
        List<int[]> planned = planned();
        int set = planned.get(0)[1];
        return pick(what, Integer.bitCount(set), set, planned.get(0)[0], planned.size() - 1);
    }

    int load(int k, int what) {
        List<int[]> planned = planned();
        return within(k, 0, planned.size() - 2) ? pick(what, planned.get(k + 1)) : -1;
    }

    int about(int what) {
        return pick(what, grading.widths.size(), marks.length(), boards.size(), tape.length());
    }
}
