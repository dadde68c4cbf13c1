/** The boundary cases of part 4 of the terms and of promises 19 to 23, a method for each sentence that names one. */
public final class PressEdgesTest {
    private static final Check CHECK = new Check();

    public static void main(String[] args) {
        noBoardsAtFirst();
        pressAtFirst();
        openingsBaseTimesLife();
        refusedPressDoesNothing();
        howThickAndWhen();
        tenBoardsAtMost();
        refusedGlueDoesNothing();
        numbersOfBoards();
        latestIsDropped();
        dropOfNone();
        allAsThick();
        openingsAtMost();
        allAreGlued();
        togetherWhileGlueLives();
        behindWhileGlueLives();
        fromMinuteZeroOn();
        oneBehindTheOther();
        pressedOnce();
        timeOfLoad();
        mostBoards();
        outSoonest();
        leastSet();
        leastLastLoad();
        leastLastLoadOfMany();
        aheadAsSoonAsCanBe();
        whatOfPlan();
        kthLoad();
        planAnew();
        latestTimes();
        CHECK.finish("PressEdgesTest");
    }

    /** Boards, each {thick, minute}. */
    private static PlyHouse house(int[] press, int[]... boards) {
        PlyHouse house = new PlyHouse();
        CHECK.due("press", house.press(press[0], press[1], press[2], press[3]), true);
        for (int number = 0; number < boards.length; number++) {
            CHECK.due("glue", house.glue(boards[number][0], boards[number][1]), number);
        }
        return house;
    }

    private static int[] press(int openings, int base, int per, int life) {
        return new int[] {openings, base, per, life};
    }

    private static int[] board(int thick, int minute) {
        return new int[] {thick, minute};
    }

    private static int[][] alike(int count, int thick, int minute) {
        int[][] boards = new int[count][];
        java.util.Arrays.setAll(boards, number -> board(thick, minute));
        return boards;
    }

    /** Its loads from the first on, each {boards, put in}. */
    private static void plans(PlyHouse house, int out, int[]... loads) {
        int set = 0;
        for (int k = 0; k < loads.length; k++) {
            set |= loads[k][0];
            CHECK.due("boards of load " + k, house.load(k, 0), loads[k][0]);
            CHECK.due("load " + k + " put in", house.load(k, 1), loads[k][1]);
        }
        CHECK.due("how many boards", house.plan(0), Integer.bitCount(set));
        CHECK.due("which boards", house.plan(1), set);
        CHECK.due("out", house.plan(2), out);
        CHECK.due("how many loads", house.plan(3), loads.length);
        CHECK.due("no load behind", house.load(loads.length, 0), -1);
        CHECK.due("none put in behind", house.load(loads.length, 1), -1);
    }

    private static int[] load(int boards, int putIn) {
        return new int[] {boards, putIn};
    }

    // "no BOARDS GLUED"
    private static void noBoardsAtFirst() {
        CHECK.due("boards of a new object", new PlyHouse().about(2), 0);
        plans(new PlyHouse(), 0);
    }

    // "(1 .. 10; 1 at first)", "10 and 1 at first", "60 at first"
    private static void pressAtFirst() {
        PlyHouse house = new PlyHouse();
        house.glue(50, 0);
        plans(house, 60, load(1, 0));
        house.glue(50, 0);
        plans(house, 120, load(2, 0), load(1, 60));
        house.drop();
        house.drop();
        house.glue(51, 0);
        house.glue(51, 0);
        plans(house, 61, load(1, 0));
    }

    // "OPENINGS (1 .. 10 ..)", "BASE 0 .. 100, PER 0 .. 10", "LIFE (1 .. 1000 ..)"
    private static void openingsBaseTimesLife() {
        CHECK.bounds("openings", openings -> new PlyHouse().press(openings, 0, 0, 1), 1, 10);
        CHECK.bounds("base", base -> new PlyHouse().press(1, base, 0, 1), 0, 100);
        CHECK.bounds("per", per -> new PlyHouse().press(1, 0, per, 1), 0, 10);
        CHECK.bounds("life", life -> new PlyHouse().press(1, 0, 0, life), 1, 1000);
        CHECK.bounds("openings with the greatest", openings -> new PlyHouse().press(openings, 100, 10, 1000), 1, 10);
        CHECK.bounds("life with the greatest", life -> new PlyHouse().press(10, 100, 10, life), 1, 1000);
    }

    // "false, doing nothing, if one can't be"
    private static void refusedPressDoesNothing() {
        int[][] wrong = {{0, 1, 1, 5}, {11, 1, 1, 5}, {3, -1, 1, 5}, {3, 101, 1, 5}, {3, 1, -1, 5}, {3, 1, 11, 5},
            {3, 1, 1, 0}, {3, 1, 1, 1001}, {Integer.MAX_VALUE, 1, 1, 5}, {3, 1, 1, Integer.MIN_VALUE}};
        for (int[] told : wrong) {
            PlyHouse house = new PlyHouse();
            house.glue(20, 0);
            house.glue(20, 0);
            house.glue(20, 0);
            CHECK.due("refused at first", house.press(told[0], told[1], told[2], told[3]), false);
            plans(house, 90, load(4, 0), load(2, 30), load(1, 60));
            house.press(2, 7, 2, 47);
            CHECK.due("refused then", house.press(told[0], told[1], told[2], told[3]), false);
            plans(house, 94, load(6, 0), load(1, 47));
        }
    }

    // "so thick (1 .. 500), at a minute (0 .. 10000)"
    private static void howThickAndWhen() {
        CHECK.bounds("thick", thick -> new PlyHouse().glue(thick, 0) == 0, 1, 500);
        CHECK.bounds("thick at last", thick -> new PlyHouse().glue(thick, 10000) == 0, 1, 500);
        CHECK.bounds("minute", minute -> new PlyHouse().glue(1, minute) == 0, 0, 10000);
        CHECK.bounds("minute of a thick one", minute -> new PlyHouse().glue(500, minute) == 0, 0, 10000);
        plans(house(press(1, 0, 1, 1), board(1, 10000)), 10001, load(1, 10000));
        plans(house(press(1, 0, 1, 1), board(500, 0)), 500, load(1, 0));
    }

    // "BOARDS, 10 at most"; "NONE, doing nothing, if .. there are 10"
    private static void tenBoardsAtMost() {
        PlyHouse house = house(press(10, 5, 1, 9), alike(10, 3, 0));
        plans(house, 8, load(1023, 0));
        for (int times = 0; times < 3; times++) {
            CHECK.due("the eleventh", house.glue(1, 0), -1);
            CHECK.due("ten", house.about(2), 10);
            plans(house, 8, load(1023, 0));
        }
        CHECK.due("drop", house.drop(), true);
        CHECK.due("the tenth again", house.glue(3, 2), 9);
        plans(house, 10, load(1023, 2));
    }

    // "NONE, doing nothing, if it can't be"
    private static void refusedGlueDoesNothing() {
        PlyHouse house = new PlyHouse();
        int[][] wrong = {{0, 0}, {501, 0}, {1, -1}, {1, 10001}, {-1, -1}, {Integer.MIN_VALUE, 5},
            {5, Integer.MAX_VALUE}};
        for (int[] told : wrong) {
            CHECK.due("refused", house.glue(told[0], told[1]), -1);
            CHECK.due("none there", house.about(2), 0);
        }
        CHECK.due("the first", house.glue(5, 7), 0);
        for (int[] told : wrong) {
            CHECK.due("refused", house.glue(told[0], told[1]), -1);
            CHECK.due("one there", house.about(2), 1);
            plans(house, 22, load(1, 7));
        }
        CHECK.due("the second", house.glue(5, 7), 1);
    }

    // "A BOARD is GLUED: its number"
    private static void numbersOfBoards() {
        PlyHouse house = new PlyHouse();
        for (int number = 0; number < 10; number++) {
            CHECK.due("number", house.glue(1 + number, 10 * number), number);
            CHECK.due("boards", house.about(2), number + 1);
        }
    }

    // "The latest BOARD is GLUED no more: true"
    private static void latestIsDropped() {
        PlyHouse house = house(press(1, 0, 1, 1000), board(3, 0), board(4, 0), board(5, 0));
        plans(house, 12, load(4, 0), load(2, 5), load(1, 9));
        CHECK.due("drop", house.drop(), true);
        plans(house, 7, load(2, 0), load(1, 4));
        CHECK.due("another in its place", house.glue(9, 0), 2);
        plans(house, 16, load(4, 0), load(2, 9), load(1, 13));
    }

    // "false if there is none"
    private static void dropOfNone() {
        PlyHouse house = new PlyHouse();
        CHECK.due("drop of a new object", house.drop(), false);
        CHECK.due("none still", house.about(2), 0);
        for (int number = 0; number < 10; number++) {
            CHECK.due("glue", house.glue(1, 0), number);
        }
        for (int left = 9; left >= 0; left--) {
            CHECK.due("drop", house.drop(), true);
            CHECK.due("boards left", house.about(2), left);
        }
        CHECK.due("drop of none", house.drop(), false);
        CHECK.due("none left", house.about(2), 0);
        plans(house, 0);
        CHECK.due("the first again", house.glue(1, 0), 0);
    }

    // "BOARDS all as thick"
    private static void allAsThick() {
        plans(house(press(2, 10, 0, 60), board(5, 0), board(5, 0)), 10, load(3, 0));
        plans(house(press(2, 10, 0, 60), board(5, 0), board(6, 0)), 20, load(2, 0), load(1, 10));
        plans(house(press(3, 10, 0, 60), board(5, 0), board(6, 0), board(5, 0)), 20, load(5, 0), load(2, 10));
        plans(house(press(10, 10, 0, 60), board(499, 0), board(500, 0)), 20, load(2, 0), load(1, 10));
    }

    // "OPENINGS at most"
    private static void openingsAtMost() {
        for (int openings = 1; openings <= 10; openings++) {
            plans(house(press(openings, 10, 0, 1), alike(openings, 5, 0)), 10, load((1 << openings) - 1, 0));
            if (openings < 10) {
                PlyHouse one = house(press(openings, 10, 0, 9), alike(openings + 1, 5, 0));
                plans(one, 10, load((1 << openings) - 1, 0));
                PlyHouse two = house(press(openings, 10, 0, 10), alike(openings + 1, 5, 0));
                plans(two, 20, load((1 << openings + 1) - 2, 0), load(1, 10));
            }
        }
    }

    // "put in at a minute at which all are GLUED"
    private static void allAreGlued() {
        plans(house(press(2, 10, 0, 60), board(5, 0), board(5, 9)), 19, load(3, 9));
        plans(house(press(2, 10, 0, 60), board(5, 9), board(5, 0)), 19, load(3, 9));
        plans(house(press(1, 10, 0, 60), board(5, 25)), 35, load(1, 25));
        plans(house(press(1, 10, 0, 60), board(5, 0), board(5, 25)), 35, load(1, 0), load(2, 25));
    }

    // "none more than LIFE minutes ago": together in one load
    private static void togetherWhileGlueLives() {
        plans(house(press(2, 15, 0, 8), board(5, 0), board(5, 8)), 23, load(3, 8));
        plans(house(press(2, 15, 0, 8), board(5, 0), board(5, 9)), 30, load(1, 0), load(2, 15));
        plans(house(press(2, 1, 0, 1), board(5, 0), board(5, 1)), 2, load(1, 0), load(2, 1));
        plans(house(press(2, 100, 0, 1), board(5, 0), board(5, 1)), 101, load(3, 1));
        plans(house(press(2, 100, 0, 1), board(5, 0), board(5, 2)), 100, load(1, 0));
        plans(house(press(2, 100, 10, 1000), board(95, 0), board(95, 1000)), 2050, load(3, 1000));
        plans(house(press(2, 100, 10, 1000), board(95, 0), board(95, 1001)), 2100, load(1, 0), load(2, 1050));
    }

    // "none more than LIFE minutes ago": behind another load
    private static void behindWhileGlueLives() {
        plans(house(press(1, 10, 0, 10), board(5, 0), board(5, 0)), 20, load(2, 0), load(1, 10));
        plans(house(press(1, 10, 0, 9), board(5, 0), board(5, 0)), 10, load(1, 0));
        plans(house(press(1, 10, 0, 9), board(5, 0), board(5, 1)), 20, load(1, 0), load(2, 10));
        plans(house(press(1, 1, 0, 1), board(5, 0), board(5, 0)), 2, load(2, 0), load(1, 1));
        plans(house(press(1, 2, 0, 1), board(5, 0), board(5, 0)), 2, load(1, 0));
        plans(house(press(1, 0, 10, 1000), board(100, 0), board(1, 0)), 1010, load(2, 0), load(1, 10));
        plans(house(press(1, 0, 10, 1000), board(100, 0), board(100, 0)), 2000, load(2, 0), load(1, 1000));
        plans(house(press(1, 1, 10, 1000), board(100, 0), board(100, 0)), 1001, load(1, 0));
    }

    // "LOADS are .. from minute 0 on"
    private static void fromMinuteZeroOn() {
        plans(house(press(1, 10, 0, 60), board(5, 0)), 10, load(1, 0));
        plans(house(press(1, 10, 0, 60), board(5, 1)), 11, load(1, 1));
    }

    // "LOADS are one behind the other": the next at the very minute at which the one ahead is out
    private static void oneBehindTheOther() {
        plans(house(press(1, 10, 0, 60), board(5, 0), board(5, 10)), 20, load(1, 0), load(2, 10));
        plans(house(press(1, 10, 0, 60), board(5, 0), board(5, 9)), 20, load(1, 0), load(2, 10));
        plans(house(press(1, 10, 0, 60), board(5, 0), board(5, 11)), 21, load(1, 0), load(2, 11));
    }

    // "a BOARD is pressed once"
    private static void pressedOnce() {
        plans(house(press(10, 0, 0, 1000), board(5, 0)), 0, load(1, 0));
        plans(house(press(10, 0, 0, 1000), board(5, 3), board(5, 3)), 3, load(2, 3), load(1, 3));
    }

    // "a LOAD takes BASE + PER * how thick its BOARDS are .. minutes"
    private static void timeOfLoad() {
        plans(house(press(1, 0, 0, 1), board(500, 4)), 4, load(1, 4));
        plans(house(press(1, 100, 0, 1), board(500, 4)), 104, load(1, 4));
        plans(house(press(1, 0, 10, 1), board(500, 4)), 5004, load(1, 4));
        plans(house(press(1, 100, 10, 1), board(500, 10000)), 15100, load(1, 10000));
        plans(house(press(3, 2, 3, 1), alike(3, 7, 4)), 27, load(7, 4));
    }

    // "most BOARDS are pressed": more go before sooner, and before a lesser set
    private static void mostBoards() {
        PlyHouse house = house(press(1, 0, 1, 5), board(100, 5), board(5, 0), board(5, 0));
        plans(house, 110, load(4, 0), load(2, 5), load(1, 10));
        house = house(press(1, 0, 1, 5), board(100, 0), board(3, 0), board(3, 0));
        plans(house, 6, load(4, 0), load(2, 3));
        house = house(press(1, 0, 1, 5), board(1, 0), board(5, 500), board(5, 500));
        plans(house, 510, load(1, 0), load(4, 500), load(2, 505));
        house = house(press(2, 10, 0, 1), board(5, 0), board(6, 0), board(6, 0));
        plans(house, 10, load(6, 0));
    }

    // "of such ways the last LOAD is out soonest": sooner goes before a lesser set
    private static void outSoonest() {
        plans(house(press(1, 0, 1, 1), board(6, 0), board(5, 0)), 5, load(2, 0));
        plans(house(press(1, 0, 1, 1), board(5, 0), board(6, 0)), 5, load(1, 0));
        plans(house(press(1, 10, 0, 5), board(5, 1), board(5, 0)), 10, load(2, 0));
        plans(house(press(1, 10, 0, 60), board(5, 20), board(5, 0)), 30, load(2, 0), load(1, 20));
        plans(house(press(2, 10, 0, 60), board(5, 20), board(5, 0)), 30, load(2, 0), load(1, 20));
        plans(house(press(2, 10, 0, 60), board(5, 9), board(5, 0)), 19, load(3, 9));
        plans(house(press(2, 10, 0, 60), board(5, 10), board(5, 0)), 20, load(2, 0), load(1, 10));
    }

    // "the least set of BOARDS (as bits) that can be so"
    private static void leastSet() {
        plans(house(press(1, 10, 0, 1), alike(10, 5, 0)), 10, load(1, 0));
        plans(house(press(3, 10, 0, 1), alike(10, 5, 0)), 10, load(7, 0));
        plans(house(press(1, 10, 0, 10), alike(4, 5, 0)), 20, load(2, 0), load(1, 10));
        PlyHouse house = house(press(2, 10, 0, 1), board(5, 0), board(6, 0), board(6, 0), board(5, 0));
        plans(house, 10, load(6, 0));
        house = house(press(2, 10, 0, 1), board(5, 0), board(6, 0), board(5, 0), board(6, 0));
        plans(house, 10, load(5, 0));
    }

    // "its last LOAD is the least set (as bits) with which all are out so soon .. and so on back"
    private static void leastLastLoad() {
        plans(house(press(1, 10, 0, 60), alike(3, 5, 0)), 30, load(4, 0), load(2, 10), load(1, 20));
        plans(house(press(2, 10, 0, 60), alike(3, 5, 0)), 20, load(6, 0), load(1, 10));
        plans(house(press(2, 10, 0, 60), alike(4, 5, 0)), 20, load(12, 0), load(3, 10));
        plans(house(press(2, 10, 0, 60), alike(5, 5, 0)), 30, load(24, 0), load(6, 10), load(1, 20));
        plans(house(press(3, 10, 0, 60), alike(4, 5, 0)), 20, load(14, 0), load(1, 10));
        plans(house(press(1, 10, 0, 10), board(5, 0), board(5, 5)), 20, load(1, 0), load(2, 10));
        plans(house(press(1, 10, 0, 60), board(5, 0), board(5, 5)), 20, load(1, 0), load(2, 10));
        plans(house(press(1, 0, 1, 60), board(5, 0), board(9, 0)), 14, load(2, 0), load(1, 9));
    }

    private static void leastLastLoadOfMany() {
        int[][] one = new int[10][];
        int[][] two = new int[5][];
        for (int k = 0; k < 10; k++) {
            one[k] = load(1 << 9 - k, 10 * k);
        }
        for (int k = 0; k < 5; k++) {
            two[k] = load(3 << 8 - 2 * k, 10 * k);
        }
        plans(house(press(1, 10, 0, 90), alike(10, 5, 0)), 100, one);
        plans(house(press(2, 10, 0, 40), alike(10, 5, 0)), 50, two);
        PlyHouse three = house(press(3, 10, 0, 30), alike(10, 5, 0));
        plans(three, 40, load(0x380, 0), load(0x70, 10), load(0xe, 20), load(1, 30));
        plans(house(press(9, 10, 0, 30), alike(10, 5, 0)), 20, load(0x3fe, 0), load(1, 10));
        plans(house(press(10, 10, 0, 30), alike(10, 5, 0)), 10, load(0x3ff, 0));
    }

    // "those ahead of it pressed as soon as can be"
    private static void aheadAsSoonAsCanBe() {
        plans(house(press(1, 10, 0, 1000), board(5, 100), board(5, 0)), 110, load(2, 0), load(1, 100));
        PlyHouse house = house(press(1, 10, 0, 1000), board(5, 100), board(5, 0), board(5, 3), board(5, 50));
        plans(house, 110, load(2, 0), load(4, 10), load(8, 50), load(1, 100));
        house = house(press(2, 10, 0, 1000), board(5, 100), board(5, 0), board(5, 3), board(5, 50));
        plans(house, 110, load(6, 3), load(8, 50), load(1, 100));
    }

    // "what 0: how many BOARDS are pressed, 1: which, as bits, 2: when .. (0 without), 3: how many LOADS"
    private static void whatOfPlan() {
        PlyHouse house = new PlyHouse();
        CHECK.bounds("what of a plan without boards", what -> house.plan(what) == 0, 0, 3);
        house.glue(5, 5);
        CHECK.bounds("what of plan", what -> house.plan(what) != -1, 0, 3);
        CHECK.due("none for another what", house.plan(4), -1);
        CHECK.due("none for one below 0", house.plan(-1), -1);
    }

    // "Of LOAD k (the first is 0) .. NONE if there is none such"
    private static void kthLoad() {
        for (int count = 1; count <= 10; count++) {
            PlyHouse house = house(press(1, 1, 0, 1000), alike(count, 5, 0));
            CHECK.bounds("k", k -> house.load(k, 0) != -1, 0, count - 1);
            CHECK.bounds("k put in", k -> house.load(k, 1) != -1, 0, count - 1);
            CHECK.bounds("what of load", what -> house.load(0, what) != -1, 0, 1);
        }
        PlyHouse none = new PlyHouse();
        CHECK.due("no load at all", none.load(0, 0), -1);
        CHECK.due("no load before", none.load(-1, 1), -1);
        PlyHouse first = house(press(1, 10, 0, 60), board(5, 7));
        CHECK.due("the first call of all", first.load(0, 1), 7);
    }

    private static void planAnew() {
        PlyHouse house = house(press(1, 10, 0, 60), board(5, 0));
        plans(house, 10, load(1, 0));
        house.glue(5, 0);
        plans(house, 20, load(2, 0), load(1, 10));
        house.press(2, 10, 0, 60);
        plans(house, 10, load(3, 0));
        house.press(2, 7, 1, 60);
        plans(house, 12, load(3, 0));
        house.press(1, 7, 1, 5);
        plans(house, 12, load(1, 0));
        house.drop();
        house.drop();
        plans(house, 0);
    }

    private static void latestTimes() {
        PlyHouse house = house(press(10, 100, 10, 1000), alike(10, 500, 10000));
        plans(house, 15100, load(1023, 10000));
        house = house(press(1, 100, 10, 1000), alike(10, 500, 10000));
        plans(house, 15100, load(1, 10000));
        int[] press = press(1, 100, 10, 1000);
        house = house(press, board(490, 10000), board(490, 10000), board(500, 5000), board(80, 10000));
        plans(house, 16000, load(4, 5000), load(8, 10100), load(1, 11000));
        house = house(press, board(490, 10000), board(490, 10000), board(500, 5001), board(80, 10000));
        plans(house, 11001, load(4, 5001), load(8, 10101));
    }
}
