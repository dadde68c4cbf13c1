import java.util.ArrayList;
import java.util.List;
import java.util.Random;

/** Promises 19 to 23: press, glue, drop, plan, load. */
public final class PressTest {
    private static final Check CHECK = new Check();

    public static void main(String[] args) {
        firstPress();
        firstSettings();
        dropped();
        wrongInputs();
        edgesOfLife();
        loadsThatTakeNoTime();
        againstModel(500, 5);
        againstModel(40, 6);
        tenBoards();
        CHECK.finish("PressTest");
    }

    private static void firstPress() {
        PlyHouse house = new PlyHouse();
        for (int what = 0; what < 4; what++) {
            CHECK.due("plan of none", house.plan(what), 0);
        }
        CHECK.due("plan 4", house.plan(4), -1);
        CHECK.due("plan -1", house.plan(-1), -1);
        CHECK.due("load of none", house.load(0, 0), -1);
        CHECK.due("drop of none", house.drop(), false);
        CHECK.due("glue", house.glue(7, 100), 0);
        CHECK.due("out", house.plan(2), 117);
        CHECK.due("put in", house.load(0, 1), 100);
        CHECK.due("what 2", house.load(0, 2), -1);
        CHECK.due("what -1", house.load(0, -1), -1);
        CHECK.due("load -1", house.load(-1, 0), -1);
        CHECK.due("load 1", house.load(1, 0), -1);
        CHECK.due("load least", house.load(Integer.MIN_VALUE, 0), -1);
        CHECK.due("load greatest", house.load(Integer.MAX_VALUE, 0), -1);
    }

    /** One opening, 10 and 1 minutes, and a life of 60. */
    private static void firstSettings() {
        PlyHouse house = new PlyHouse();
        house.glue(50, 0);
        house.glue(50, 0);
        CHECK.due("the second one just alive", house.plan(0), 2);
        CHECK.due("one opening", house.plan(3), 2);
        CHECK.due("out", house.plan(2), 120);
        house = new PlyHouse();
        house.glue(51, 0);
        house.glue(51, 0);
        CHECK.due("the second one dies", house.plan(0), 1);
        CHECK.due("the first is told", house.plan(1), 1);
    }

    private static void dropped() {
        PlyHouse house = new PlyHouse();
        for (int number = 0; number < 4; number++) {
            house.glue(5, 10 * number);
        }
        CHECK.due("four", house.plan(1), 15);
        house.drop();
        CHECK.due("three", house.plan(1), 7);
        CHECK.due("out of three", house.plan(2), 45);
        CHECK.due("the number again", house.glue(500, 1), 3);
        CHECK.due("the new one is last", house.plan(2), 45 + 510);
        house.drop();
        house.drop();
        CHECK.due("two", house.plan(1), 3);
        CHECK.due("loads of two", house.load(2, 0), -1);
    }

    private static void wrongInputs() {
        PlyHouse house = new PlyHouse();
        int[][] wrong = {{0, 0, 0, 1}, {11, 0, 0, 1}, {1, -1, 0, 1}, {1, 101, 0, 1}, {1, 0, -1, 1}, {1, 0, 11, 1},
            {1, 0, 0, 0}, {1, 0, 0, 1001}, {Integer.MIN_VALUE, 0, 0, 1}};
        for (int[] told : wrong) {
            CHECK.due("wrong press", house.press(told[0], told[1], told[2], told[3]), false);
        }
        int[][] wrongBoards = {{0, 0}, {501, 0}, {1, -1}, {1, 10001}, {-1, 0}, {Integer.MAX_VALUE, 0}};
        for (int[] told : wrongBoards) {
            CHECK.due("wrong board", house.glue(told[0], told[1]), -1);
        }
        CHECK.due("no boards", house.about(2), 0);
        house.glue(1, 0);
        CHECK.due("press is as at first", house.plan(2), 11);
        CHECK.due("edges", house.press(10, 100, 10, 1000), true);
        CHECK.due("edge board", house.glue(500, 10000), 1);
        CHECK.due("out late", house.plan(2), 15100);
        CHECK.due("least", house.press(1, 0, 0, 1), true);
        for (int number = 2; number < 10; number++) {
            CHECK.due("glue", house.glue(1, 0), number);
        }
        CHECK.due("the eleventh", house.glue(1, 0), -1);
        CHECK.due("ten", house.about(2), 10);
        for (int number = 10; number > 0; number--) {
            CHECK.due("drop", house.drop(), true);
            CHECK.due("left", house.about(2), number - 1);
        }
        CHECK.due("drop of none", house.drop(), false);
        CHECK.due("plan of none", house.plan(2), 0);
    }

    private static void edgesOfLife() {
        PlyHouse house = new PlyHouse();
        house.press(2, 0, 0, 60);
        house.glue(5, 0);
        house.glue(5, 60);
        CHECK.due("sixty minutes ago: all out at 60", house.plan(2), 60);
        CHECK.due("the older one, just alive, is the least last load", house.load(1, 0), 1);
        CHECK.due("at 60 too", house.load(1, 1), 60);
        house.press(2, 10, 0, 60);
        CHECK.due("together or apart at 60", house.load(house.plan(3) - 1, 0), 2);
        CHECK.due("apart", house.plan(3), 2);
        house.drop();
        house.glue(5, 9);
        CHECK.due("together", house.load(0, 0), 3);
        CHECK.due("at 9", house.load(0, 1), 9);
        house.press(2, 10, 0, 8);
        CHECK.due("one is 9 minutes old: apart", house.plan(3), 2);
        CHECK.due("out at 20", house.plan(2), 20);
        house.press(2, 13, 0, 3);
        CHECK.due("one of them dies", house.plan(0), 1);
        CHECK.due("the first is out soonest", house.plan(1), 1);
        CHECK.due("out at 13", house.plan(2), 13);
        house.press(2, 12, 0, 3);
        CHECK.due("just alive", house.plan(0), 2);
    }

    private static void loadsThatTakeNoTime() {
        PlyHouse house = new PlyHouse();
        house.press(10, 0, 0, 1000);
        for (int number = 0; number < 10; number++) {
            house.glue(3, 0);
        }
        CHECK.due("all", house.plan(1), 1023);
        CHECK.due("out at once", house.plan(2), 0);
        CHECK.due("one by one", house.plan(3), 10);
        for (int number = 0; number < 10; number++) {
            CHECK.due("load " + number, house.load(number, 0), 1 << 9 - number);
            CHECK.due("put in " + number, house.load(number, 1), 0);
        }
    }

    private static void tenBoards() {
        Random random = new Random(4);
        for (int run = 0; run < 60; run++) {
            PlyHouse house = new PlyHouse();
            int openings = 1 + random.nextInt(10);
            int base = random.nextInt(30);
            int per = random.nextInt(3);
            int life = 1 + random.nextInt(run % 2 == 0 ? 60 : 300);
            house.press(openings, base, per, life);
            int[] thick = new int[10];
            int[] minute = new int[10];
            for (int number = 0; number < 10; number++) {
                thick[number] = 1 + random.nextInt(3);
                minute[number] = random.nextInt(100);
                CHECK.due("number", house.glue(thick[number], minute[number]), number);
            }
            soundPlan(house, new int[] {openings, base, per, life}, thick, minute);
        }
    }

    /** What holds for every plan, also for one too great to go through all ways. */
    private static void soundPlan(PlyHouse house, int[] press, int[] thick, int[] minute) {
        int seen = 0;
        int free = 0;
        for (int k = 0; k < house.plan(3); k++) {
            int load = house.load(k, 0);
            int putIn = house.load(k, 1);
            CHECK.due("once", load & seen, 0);
            CHECK.due("openings", Integer.bitCount(load) <= press[0] && load != 0, true);
            CHECK.due("behind", putIn >= free, true);
            int thickness = thick[Integer.numberOfTrailingZeros(load)];
            for (int number = 0; number < 10; number++) {
                if ((load >> number & 1) == 1) {
                    CHECK.due("as thick", thick[number], thickness);
                    CHECK.due("glued", putIn >= minute[number] && putIn - minute[number] <= press[3], true);
                }
            }
            free = putIn + press[1] + press[2] * thickness;
            seen |= load;
        }
        CHECK.due("all told", seen, house.plan(1));
        CHECK.due("how many", Integer.bitCount(seen), house.plan(0));
        CHECK.due("out", free, house.plan(2));
    }

    /** One way to press: its loads in their order, and when each is put in. */
    private static final class Way {
        final List<Integer> loads = new ArrayList<>();
        final List<Integer> times = new ArrayList<>();
        int boards;
        int out;
    }

    private static void againstModel(int runs, int most) {
        Random random = new Random(3);
        for (int run = 0; run < runs; run++) {
            PlyHouse house = new PlyHouse();
            int boards = random.nextInt(most + 1);
            int[] press = {1 + random.nextInt(3), random.nextInt(12), random.nextInt(3), 1 + random.nextInt(25)};
            house.press(press[0], press[1], press[2], press[3]);
            int[] thick = new int[boards];
            int[] minute = new int[boards];
            for (int number = 0; number < boards; number++) {
                thick[number] = 1 + random.nextInt(2 + run % 3);
                minute[number] = random.nextInt(30);
                house.glue(thick[number], minute[number]);
            }
            Way[] kept = new Way[1];
            goOn(new Way(), kept, press, thick, minute);
            compare(house, kept[0]);
        }
    }

    private static void compare(PlyHouse house, Way way) {
        CHECK.due("plan 0", house.plan(0), Integer.bitCount(way.boards));
        CHECK.due("plan 1", house.plan(1), way.boards);
        CHECK.due("plan 2", house.plan(2), way.out);
        CHECK.due("plan 3", house.plan(3), way.loads.size());
        for (int k = 0; k < way.loads.size(); k++) {
            CHECK.due("load 0", house.load(k, 0), way.loads.get(k));
            CHECK.due("load 1", house.load(k, 1), way.times.get(k));
        }
    }

    /** Goes through all orders of loads, each put in as soon as it can be behind those ahead of it. */
    private static void goOn(Way way, Way[] kept, int[] press, int[] thick, int[] minute) {
        if (kept[0] == null || isBetter(way, kept[0], press, thick)) {
            kept[0] = way;
        }
        for (int load = 1; load < 1 << thick.length; load++) {
            if ((load & way.boards) != 0 || Integer.bitCount(load) > press[0]) {
                continue;
            }
            int thickness = thick[Integer.numberOfTrailingZeros(load)];
            int time = way.out;
            boolean alike = true;
            for (int number = 0; number < thick.length; number++) {
                if ((load >> number & 1) == 1) {
                    time = Math.max(time, minute[number]);
                    alike &= thick[number] == thickness;
                }
            }
            for (int number = 0; number < thick.length; number++) {
                alike &= (load >> number & 1) == 0 || time - minute[number] <= press[3];
            }
            if (!alike) {
                continue;
            }
            Way next = new Way();
            next.loads.addAll(way.loads);
            next.times.addAll(way.times);
            next.loads.add(load);
            next.times.add(time);
            next.boards = way.boards | load;
            next.out = time + press[1] + press[2] * thickness;
            goOn(next, kept, press, thick, minute);
        }
    }

    /**
     * Most boards, soonest out, least set; then from the last load back: the lesser load, and the same load
     * with those ahead of it out sooner.
     */
    private static boolean isBetter(Way a, Way b, int[] press, int[] thick) {
        if (Integer.bitCount(a.boards) != Integer.bitCount(b.boards)) {
            return Integer.bitCount(a.boards) > Integer.bitCount(b.boards);
        }
        if (a.out != b.out) {
            return a.out < b.out;
        }
        if (a.boards != b.boards) {
            return a.boards < b.boards;
        }
        int last = Math.max(a.loads.size(), b.loads.size());
        for (int back = 1; back <= last; back++) {
            int loadA = a.loads.get(a.loads.size() - back);
            int loadB = b.loads.get(b.loads.size() - back);
            if (loadA != loadB) {
                return loadA < loadB;
            }
            int aheadA = outAhead(a, back, press, thick);
            int aheadB = outAhead(b, back, press, thick);
            if (aheadA != aheadB) {
                return aheadA < aheadB;
            }
        }
        return false;
    }

    private static int outAhead(Way way, int back, int[] press, int[] thick) {
        int ahead = way.loads.size() - back - 1;
        if (ahead < 0) {
            return 0;
        }
        int load = way.loads.get(ahead);
        return way.times.get(ahead) + press[1] + press[2] * thick[Integer.numberOfTrailingZeros(load)];
    }
}
