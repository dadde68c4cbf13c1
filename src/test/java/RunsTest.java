import java.util.Random;

/**
 * Runs of calls on one object, each answer as the model of the whole house has it: many calls are refused, or stand at
 * a bound, and the calls behind them show what was done. No object has more than 512 calls.
 */
public final class RunsTest {
    private static final Check CHECK = new Check();
    private static final int MOST_CALLS = 512;
    // What the longest of the steps below and all that is asked at the end take.
    private static final int LAST_CALLS = 120;
    private static final int RUNS = 240;

    private final Random random;
    private final PlyHouse house = new PlyHouse();
    private final HouseModel model = new HouseModel();
    private int calls;

    private RunsTest(long seed) {
        random = new Random(seed);
    }

    public static void main(String[] args) {
        for (int run = 0; run < RUNS; run++) {
            RunsTest test = new RunsTest(run);
            while (test.calls < MOST_CALLS - LAST_CALLS) {
                test.doSome(run % 6);
            }
            test.askAll();
        }
        CHECK.finish("RunsTest");
    }

    private void due(String call, int got, int want) {
        calls++;
        CHECK.due(call, got, want);
    }

    private void due(String call, boolean got, boolean want) {
        calls++;
        CHECK.due(call, got, want);
    }

    /** Mostly a number that may be, its bounds more often than others; else one right or far outside. */
    private int near(int low, int high) {
        int[] edges = {low, high, low, high, low - 1, high + 1, Integer.MIN_VALUE, Integer.MAX_VALUE};
        int way = random.nextInt(40);
        return way < edges.length ? edges[way] : low + random.nextInt(high - low + 1);
    }

    private void doSome(int part) {
        switch (part == 5 ? random.nextInt(5) : part) {
            case 0 -> tellLog();
            case 1 -> tellText();
            case 2 -> tellLeaf();
            case 3 -> tellVeneers();
            default -> tellPress();
        }
    }

    private void tellLog() {
        int row = near(0, 23);
        int cells = random.nextInt(5) == 0 ? near(0, 0xffffff) : 0xffffff ^ random.nextInt(8) / 7 << random.nextInt(24);
        due("net", house.net(row, cells), model.net(row, cells));
        int what = near(0, 2);
        due("centre", house.centre(what), model.centre(what));
        int core = near(1, 200);
        int thick = near(1, 50);
        due("full", house.full(core, thick), model.full(core, thick));
    }

    private void feed(String text) {
        int from = 0;
        while (from < text.length()) {
            int[] words = new int[5];
            for (int at = 0; at < 20; at++) {
                int sign = from + at < text.length() ? text.charAt(from + at) : random.nextInt(256);
                words[at / 4] |= sign << 24 - at % 4 * 8;
            }
            due("feed", house.feed(words[0], words[1], words[2], words[3], words[4]), model.feed(words));
            from += 20;
        }
        int n = random.nextInt(12) == 0 ? near(0, text.length() + 1) : text.length();
        due("end", house.end(n), model.end(n));
        due("bytes", house.about(3), model.about(3));
    }

    private void tellText() {
        String text = GradeText.random(random, random.nextInt(4), random.nextInt(7));
        if (random.nextInt(3) == 0 && !text.isEmpty()) {
            int at = random.nextInt(text.length());
            String[] changes =
                {"", " ", "(", ")", "not ", "0", "5a", "$", ";", "grade 101 worth 1;", "grade 1 worth 0;"};
            text = text.substring(0, at) + changes[random.nextInt(changes.length)] + text.substring(at + 1);
        }
        feed(text.substring(0, Math.min(600, text.length())));
        due("grades", house.grades(), model.grades());
        askFault();
        askSheets();
    }

    private void tellLeaf() {
        if (random.nextInt(8) == 0 || model.about(0) == 0) {
            tellText();
        }
        StringBuilder text = new StringBuilder();
        String marks = random.nextBoolean() ? "...koosp" : "oooo.";
        int length = random.nextInt(20) == 0 ? 299 + random.nextInt(3) : random.nextInt(25);
        for (int at = 0; at < length; at++) {
            text.append(marks.charAt(random.nextInt(marks.length())));
        }
        if (random.nextInt(6) == 0 && length > 0) {
            text.setCharAt(random.nextInt(length), (char) random.nextInt(256));
        }
        feed(text.toString());
        due("leaf", house.leaf(), model.leaf());
        askFault();
        askSheets();
        int patches = near(0, 3);
        int cost = random.nextBoolean() ? random.nextInt(4) : near(0, 100);
        due("patch", house.patch(patches, cost), model.patch(patches, cost));
        askSheets();
    }

    private void askFault() {
        int what = near(0, 1);
        due("fault", house.fault(what), model.fault(what));
    }

    private void askSheets() {
        int from = near(0, Math.max(0, model.about(1) - 1));
        int grade = near(0, Math.max(0, model.about(0) - 1));
        int patched = near(0, 3);
        due("sheet", house.sheet(from, grade, patched), model.sheet(from, grade, patched));
        if (model.about(1) > 100 && random.nextInt(4) > 0) {
            return;
        }
        int sheets = model.sheets();
        int k = near(0, Math.max(0, sheets - 1));
        int what = near(0, 2);
        due("clipped", house.clipped(k, what), model.clipped(k, what));
        due("worth", house.worth(), model.worth());
        due("sheets", house.sheets(), sheets);
    }

    private void tellVeneers() {
        int kind = near(0, 5);
        int thick = random.nextBoolean() ? near(1, 5) : near(1, 90);
        int off = random.nextInt(3) == 0 ? near(0, Math.min(20, Math.max(0, thick))) : 0;
        int price = random.nextBoolean() ? near(0, 3) : near(0, 1000);
        boolean fair = random.nextInt(3) > 0;
        due("veneer", house.veneer(kind, thick, off, price, fair), model.veneer(kind, thick, off, price, fair));
        int n = near(1, 9);
        int kinds = 0;
        for (int layer = 0; layer < 9 && layer < n; layer++) {
            kinds |= random.nextInt(100) / 18 << 3 * layer;
        }
        kinds = random.nextInt(20) == 0 ? near(0, 1 << 27) : kinds;
        int what = near(0, 2);
        due("board", house.board(n, kinds, what), model.board(n, kinds, what));
        due("warp", house.warp(n, kinds), model.warp(n, kinds));
        int odd = random.nextInt(8) == 0 ? near(1, 9) : 1 + 2 * random.nextInt(4);
        int low = random.nextInt(8) == 0 ? near(0, 900) : random.nextInt(odd > 0 && odd < 10 ? 60 * odd : 60);
        int high = random.nextInt(8) == 0 ? near(0, 900) : low + random.nextInt(60);
        due("best", house.best(odd, low, high), model.best(odd, low, high));
    }

    private void tellPress() {
        if (random.nextInt(4) == 0) {
            int openings = near(1, 10);
            int base = random.nextBoolean() ? random.nextInt(20) : near(0, 100);
            int per = random.nextBoolean() ? random.nextInt(2) : near(0, 10);
            int life = random.nextBoolean() ? 1 + random.nextInt(60) : near(1, 1000);
            due("press", house.press(openings, base, per, life), model.press(openings, base, per, life));
        }
        if (random.nextInt(3) == 0) {
            due("drop", house.drop(), model.drop());
        } else {
            int thick = random.nextBoolean() ? 5 + random.nextInt(2) : near(1, 500);
            int minute = random.nextInt(4) > 0 ? random.nextInt(60) : near(0, 10000);
            due("glue", house.glue(thick, minute), model.glue(thick, minute));
        }
        due("boards", house.about(2), model.about(2));
        if (random.nextInt(3) == 0) {
            askPlan();
        }
    }

    private void askPlan() {
        int k = near(0, 3);
        int which = near(0, 1);
        due("load", house.load(k, which), model.load(k, which));
        int what = near(0, 3);
        due("plan", house.plan(what), model.plan(what));
    }

    /** All that is there at the end of a run. */
    private void askAll() {
        for (int what = -1; what < 5; what++) {
            due("about", house.about(what), model.about(what));
            due("fault", house.fault(what), model.fault(what));
            due("centre", house.centre(what), model.centre(what));
            due("plan", house.plan(what), model.plan(what));
        }
        for (int kind = 0; kind < 6; kind++) {
            for (int what = 0; what < 3; what++) {
                due("veneer", house.board(1, kind, what), model.board(1, kind, what));
            }
        }
        askSheets();
        due("best", house.best(3, 0, 1000), model.best(3, 0, 1000));
        CHECK.due("calls of a run", calls <= MOST_CALLS, true);
    }
}
