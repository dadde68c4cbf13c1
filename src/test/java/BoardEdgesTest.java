/** The boundary cases of part 3 of the terms and of promises 15 to 18, a method for each sentence that names one. */
public final class BoardEdgesTest {
    private static final Check CHECK = new Check();
    private static final int NO_WARP = -2000000;

    public static void main(String[] args) {
        veneersAtFirst();
        kindsOfVeneer();
        howThick();
        howFarOff();
        offNoMoreThanThick();
        prices();
        refusedVeneerDoesNothing();
        veneerIsToldAgain();
        numberOfLayers();
        digitAboveFive();
        digitBeyondTheLayers();
        whatOfBoard();
        lowestLayerInLowestDigit();
        thinAndThick();
        greatestBoards();
        warpOfOneLayer();
        warpInTurn();
        greatestWarp();
        warpThatCantBe();
        oddNumberOfLayers();
        thinIsLowOrMore();
        thickIsHighOrLess();
        lowestLayerIsFair();
        leastPrice();
        firstFromTheLowestOn();
        noBest();
        CHECK.finish("BoardEdgesTest");
    }

    private static void boardIs(PlyHouse house, int n, int kinds, int thin, int thick, int price) {
        CHECK.due("thin of " + Integer.toOctalString(kinds), house.board(n, kinds, 0), thin);
        CHECK.due("thick of " + Integer.toOctalString(kinds), house.board(n, kinds, 1), thick);
        CHECK.due("price of " + Integer.toOctalString(kinds), house.board(n, kinds, 2), price);
    }

    /** All kinds but those told are so dear and thick that none would take them. */
    private static PlyHouse houseOf(int[]... told) {
        PlyHouse house = new PlyHouse();
        for (int kind = 0; kind < 6; kind++) {
            boolean own = kind < told.length;
            int[] veneer = own ? told[kind] : new int[] {90, 20, 1000, 0};
            CHECK.due("veneer", house.veneer(kind, veneer[0], veneer[1], veneer[2], veneer[3] == 1), true);
        }
        return house;
    }

    // "10 at first", "0 at first", "1 at first", "all are at first"
    private static void veneersAtFirst() {
        PlyHouse house = new PlyHouse();
        for (int kind = 0; kind < 6; kind++) {
            boardIs(house, 1, kind, 10, 10, 1);
        }
        for (int kind = 0; kind < 6; kind++) {
            CHECK.due("fair at first", house.best(1, 10, 10), kind);
            house.veneer(kind, 10, 0, 1, false);
        }
        CHECK.due("none fair any more", house.best(1, 10, 10), -1);
    }

    // "KINDS 0 .. 5"
    private static void kindsOfVeneer() {
        CHECK.bounds("kind", kind -> new PlyHouse().veneer(kind, 10, 0, 1, true), 0, 5);
    }

    // "how thick (1 .. 90 ..)"
    private static void howThick() {
        for (int kind = 0; kind < 6; kind++) {
            int told = kind;
            CHECK.bounds("thick", thick -> new PlyHouse().veneer(told, thick, 0, 1, false), 1, 90);
        }
        PlyHouse house = new PlyHouse();
        house.veneer(0, 1, 0, 1, true);
        house.veneer(1, 90, 0, 1, true);
        boardIs(house, 1, 0, 1, 1, 1);
        boardIs(house, 1, 1, 90, 90, 1);
    }

    // "OFF (.. 0 .. 20 ..)"
    private static void howFarOff() {
        CHECK.bounds("off of 90", off -> new PlyHouse().veneer(3, 90, off, 1, true), 0, 20);
        CHECK.bounds("off of 21", off -> new PlyHouse().veneer(3, 21, off, 1, true), 0, 20);
        CHECK.bounds("off of 20", off -> new PlyHouse().veneer(3, 20, off, 1, true), 0, 20);
    }

    // "no more than it is thick"
    private static void offNoMoreThanThick() {
        for (int thick = 1; thick <= 19; thick++) {
            int told = thick;
            CHECK.bounds("off of " + thick, off -> new PlyHouse().veneer(3, told, off, 1, true), 0, thick);
        }
        PlyHouse house = new PlyHouse();
        house.veneer(2, 20, 20, 1, true);
        boardIs(house, 1, 2, 0, 40, 1);
        CHECK.due("thinner than it is off", house.veneer(2, 19, 20, 1, true), false);
        boardIs(house, 1, 2, 0, 40, 1);
    }

    // "a price (0 .. 1000 ..)"
    private static void prices() {
        CHECK.bounds("price", price -> new PlyHouse().veneer(5, 10, 10, price, true), 0, 1000);
        PlyHouse house = new PlyHouse();
        house.veneer(5, 10, 10, 1000, true);
        house.veneer(4, 10, 10, 0, true);
        boardIs(house, 1, 5, 0, 20, 1000);
        boardIs(house, 1, 4, 0, 20, 0);
    }

    // "false, doing nothing, if it can't be"
    private static void refusedVeneerDoesNothing() {
        int[][] wrong = {{-1, 5, 1, 9}, {6, 5, 1, 9}, {2, 0, 0, 9}, {2, 91, 1, 9}, {2, 5, -1, 9}, {2, 5, 6, 9},
            {2, 50, 21, 9}, {2, 5, 1, -1}, {2, 5, 1, 1001}, {8, 5, 1, 9}, {Integer.MAX_VALUE, 5, 1, 9}};
        for (int[] told : wrong) {
            PlyHouse house = houseOf(new int[] {30, 3, 7, 1}, new int[] {30, 3, 7, 1}, new int[] {40, 4, 6, 1},
                new int[] {30, 3, 7, 1}, new int[] {30, 3, 7, 1}, new int[] {30, 3, 7, 1});
            CHECK.due("refused", house.veneer(told[0], told[1], told[2], told[3], false), false);
            for (int kind = 0; kind < 6; kind++) {
                boardIs(house, 1, kind, kind == 2 ? 36 : 27, kind == 2 ? 44 : 33, kind == 2 ? 6 : 7);
            }
            CHECK.due("still fair", house.best(1, 0, 100), 2);
            CHECK.due("others still fair", house.best(1, 0, 33), 0);
        }
    }

    private static void veneerIsToldAgain() {
        PlyHouse house = new PlyHouse();
        house.veneer(0, 50, 20, 500, false);
        boardIs(house, 3, 010, 30 + 10 + 30, 70 + 10 + 70, 1001);
        CHECK.due("not fair", house.best(1, 0, 100), 1);
        house.veneer(0, 60, 0, 0, true);
        boardIs(house, 3, 010, 130, 130, 1);
        CHECK.due("fair again", house.best(1, 0, 100), 0);
    }

    // "1 .. 9 LAYERS"
    private static void numberOfLayers() {
        PlyHouse house = new PlyHouse();
        for (int what = 0; what < 3; what++) {
            int told = what;
            CHECK.bounds("n of board", n -> house.board(n, 0, told) != -1, 1, 9);
        }
        CHECK.bounds("n of warp", n -> house.warp(n, 0) != NO_WARP, 1, 9);
        for (int n = 1; n <= 9; n++) {
            boardIs(house, n, 0, 10 * n, 10 * n, n);
        }
        // A shift by 3 * n wraps around at these.
        int[] wrapped = {32, 33, 0x55555556, -32, -31, 1 << 30};
        for (int n : wrapped) {
            CHECK.due("n " + n, house.board(n, 0, 0), -1);
            CHECK.due("warp of n " + n, house.warp(n, 0), NO_WARP);
        }
    }

    // "NONE if it can't be (a digit above 5 ..)"
    private static void digitAboveFive() {
        PlyHouse house = new PlyHouse();
        for (int n = 1; n <= 9; n++) {
            for (int layer = 0; layer < n; layer++) {
                for (int digit = 0; digit < 8; digit++) {
                    int kinds = digit << 3 * layer;
                    CHECK.due("digit " + digit, house.board(n, kinds, 2), digit <= 5 ? n : -1);
                }
            }
        }
        boardIs(house, 9, 0555555555, 90, 90, 9);
        CHECK.due("the least that is above", house.board(9, 0555555556, 0), -1);
    }

    // "(.. one beyond the LAYERS)"
    private static void digitBeyondTheLayers() {
        PlyHouse house = new PlyHouse();
        for (int n = 1; n <= 9; n++) {
            CHECK.due("the greatest", house.board(n, (1 << 3 * n) / 7 * 5, 0), 10 * n);
            for (int bit = 3 * n; bit < 32; bit++) {
                CHECK.due("beyond", house.board(n, 1 << bit, 0), -1);
                CHECK.due("beyond: warp", house.warp(n, 1 << bit), NO_WARP);
            }
            CHECK.due("below 0", house.board(n, -1, 0), -1);
            CHECK.due("the least", house.board(n, Integer.MIN_VALUE, 0), -1);
            CHECK.due("the greatest int", house.board(n, Integer.MAX_VALUE, 0), -1);
        }
    }

    // "what 0: THIN, 1: THICK, 2: its price"
    private static void whatOfBoard() {
        PlyHouse house = new PlyHouse();
        CHECK.bounds("what of board", what -> house.board(3, 0123, what) != -1, 0, 2);
    }

    // "from the lowest on as an octal number: the lowest LAYER in its lowest digit"
    private static void lowestLayerInLowestDigit() {
        PlyHouse house = houseOf(new int[] {10, 0, 1, 1}, new int[] {20, 0, 1, 1});
        CHECK.due("the thick one lies lowest", house.warp(3, 0001), 20 * -20 - 10 * 10 + 10 * 30);
        CHECK.due("the thick one lies highest", house.warp(3, 0100), 10 * -30 - 10 * -10 + 20 * 20);
    }

    // "THIN: .. less OFF each; THICK: OFF more each"
    private static void thinAndThick() {
        PlyHouse house = houseOf(new int[] {10, 10, 3, 1}, new int[] {20, 0, 5, 1}, new int[] {90, 20, 0, 1});
        boardIs(house, 1, 0, 0, 20, 3);
        boardIs(house, 1, 1, 20, 20, 5);
        boardIs(house, 3, 0210, 0 + 20 + 70, 20 + 20 + 110, 8);
        boardIs(house, 4, 0, 0, 80, 12);
    }

    private static void greatestBoards() {
        PlyHouse house = new PlyHouse();
        house.veneer(5, 90, 20, 1000, true);
        boardIs(house, 9, 0555555555, 630, 990, 9000);
        house.veneer(4, 1, 1, 0, true);
        boardIs(house, 9, 0444444444, 0, 18, 0);
    }

    // "what lies below it less what lies above it": nothing does
    private static void warpOfOneLayer() {
        PlyHouse house = new PlyHouse();
        for (int kind = 0; kind < 6; kind++) {
            house.veneer(kind, 90 - kind, 20, 1000, false);
            CHECK.due("warp of one", house.warp(1, kind), 0);
        }
    }

    // "The lowest LAYER lies lengthwise, the next across, and on in turn", "across ones taken away"
    private static void warpInTurn() {
        PlyHouse house = new PlyHouse();
        int[] due = {0, -200, 0, -400, 0, -600, 0, -800, 0};
        for (int n = 1; n <= 9; n++) {
            CHECK.due("warp of " + n, house.warp(n, 0), due[n - 1]);
        }
        house.veneer(1, 30, 5, 9, false);
        CHECK.due("OFF does not matter", house.warp(2, 010), 10 * -30 - 30 * 10);
        CHECK.due("a BALANCED one lies flat", house.warp(9, 0100010001), 0);
    }

    private static void greatestWarp() {
        PlyHouse house = houseOf(new int[] {90, 0, 1, 1}, new int[] {1, 0, 1, 1});
        int[][] boards = {{8, 000001111}, {9, 010101010}, {9, 001010101}, {8, 010100101}, {8, 001011010}, {9, 1}};
        for (int[] told : boards) {
            int due = 0;
            for (int layer = 0; layer < told[0]; layer++) {
                for (int other = 0; other < told[0]; other++) {
                    int thick = (told[1] >> 3 * layer & 7) == 0 ? 90 : 1;
                    int pulls = (told[1] >> 3 * other & 7) == 0 ? 90 : 1;
                    due += (layer % 2 == 0 ? 1 : -1) * Integer.compare(layer, other) * thick * pulls;
                }
            }
            CHECK.due("warp", house.warp(told[0], told[1]), due);
        }
    }

    // "-2000000 if it can't be"
    private static void warpThatCantBe() {
        PlyHouse house = new PlyHouse();
        int[][] wrong = {{0, 0}, {10, 0}, {1, 6}, {1, 7}, {1, 010}, {9, 0600000000}, {9, 01000000000}, {3, -1},
            {Integer.MIN_VALUE, 0}, {Integer.MAX_VALUE, 0}, {9, Integer.MIN_VALUE}};
        for (int[] told : wrong) {
            CHECK.due("warp that can't be", house.warp(told[0], told[1]), NO_WARP);
        }
    }

    // "NONE .. or n is not odd, or not 1 .. 9"
    private static void oddNumberOfLayers() {
        PlyHouse house = new PlyHouse();
        for (int n = -12; n <= 40; n++) {
            boolean may = n == 1 || n == 3 || n == 5 || n == 7 || n == 9;
            CHECK.due("best of " + n, house.best(n, 0, 1000), may ? 0 : -1);
        }
        CHECK.bounds("n of best", n -> house.best(n, Integer.MIN_VALUE, Integer.MAX_VALUE) != -1, 1, 9);
        house.veneer(0, 1, 0, 0, true);
        CHECK.due("cheap ones of no layer", house.best(0, 0, 1000), -1);
    }

    // "whose THIN is low or more"
    private static void thinIsLowOrMore() {
        for (int n = 1; n <= 9; n += 2) {
            PlyHouse house = houseOf(new int[] {10, 3, 1, 1});
            CHECK.due("THIN is low", house.best(n, 7 * n, 13 * n), 0);
            CHECK.due("THIN is more", house.best(n, 7 * n - 1, 13 * n), 0);
            CHECK.due("THIN is less", house.best(n, 7 * n + 1, 13 * n), -1);
            CHECK.due("low below 0", house.best(n, Integer.MIN_VALUE, 13 * n), 0);
            CHECK.due("low far above", house.best(n, Integer.MAX_VALUE, Integer.MAX_VALUE), -1);
        }
    }

    // "whose THICK is high or less"
    private static void thickIsHighOrLess() {
        for (int n = 1; n <= 9; n += 2) {
            PlyHouse house = houseOf(new int[] {10, 3, 1, 1});
            CHECK.due("THICK is high", house.best(n, 0, 13 * n), 0);
            CHECK.due("THICK is less", house.best(n, 0, 13 * n + 1), 0);
            CHECK.due("THICK is more", house.best(n, 0, 13 * n - 1), -1);
            CHECK.due("high below 0", house.best(n, Integer.MIN_VALUE, -1), -1);
            CHECK.due("high least", house.best(n, Integer.MIN_VALUE, Integer.MIN_VALUE), -1);
            CHECK.due("high far above", house.best(n, 0, Integer.MAX_VALUE), 0);
            CHECK.due("high below low", house.best(n, 7 * n, 7 * n - 1), -1);
        }
        PlyHouse thin = houseOf(new int[] {1, 1, 1, 1});
        CHECK.due("THIN 0", thin.best(1, 0, 2), 0);
        CHECK.due("THIN 0 is less than 1", thin.best(1, 1, 2), -1);
    }

    // "whose lowest LAYER is FAIR": the lowest, and so the highest, but no other
    private static void lowestLayerIsFair() {
        PlyHouse house = houseOf(new int[] {10, 0, 1, 0}, new int[] {10, 0, 5, 1});
        CHECK.due("one layer", house.best(1, 0, 90), 1);
        CHECK.due("three layers", house.best(3, 0, 90), 0101);
        CHECK.due("five layers", house.best(5, 0, 90), 010001);
        CHECK.due("nine layers", house.best(9, 0, 90), 0100000001);
        house.veneer(1, 10, 0, 5, false);
        for (int n = 1; n <= 9; n += 2) {
            CHECK.due("none is fair", house.best(n, 0, 1000), -1);
        }
    }

    // "that of the least price of all LAYERS together"
    private static void leastPrice() {
        PlyHouse house = houseOf(new int[] {10, 0, 1000, 1}, new int[] {10, 0, 999, 1}, new int[] {11, 0, 998, 1});
        CHECK.due("the cheapest", house.best(9, 0, 99), 0222222222);
        CHECK.due("the cheapest that is thin enough", house.best(9, 0, 98), 0222212222);
        CHECK.due("the next ones", house.best(9, 0, 97), 0122222221);
        CHECK.due("none of them", house.best(9, 0, 90), 0111111111);
        CHECK.due("all together, not each", house.best(3, 31, 31), 0121);
        for (int n = 1; n <= 9; n += 2) {
            CHECK.due("the dearest", houseOf(new int[] {10, 0, 1000, 1}).best(n, 10 * n, 10 * n), 0);
        }
        PlyHouse free = houseOf(new int[] {10, 0, 1, 1}, new int[] {10, 0, 0, 1});
        CHECK.due("for nothing", free.best(9, 0, 90), 0111111111);
    }

    // "of like ones the first by KINDS from the lowest LAYER on"
    private static void firstFromTheLowestOn() {
        PlyHouse house = houseOf(new int[] {10, 0, 5, 1}, new int[] {10, 0, 5, 1}, new int[] {20, 0, 5, 1});
        CHECK.due("all alike", house.best(9, 90, 90), 0);
        CHECK.due("a thick one in the middle", house.best(5, 60, 60), 000200);
        CHECK.due("two thick ones, not lowest", house.best(5, 70, 70), 002020);
        CHECK.due("three thick ones", house.best(5, 80, 80), 002220);
        CHECK.due("four thick ones", house.best(5, 90, 90), 022022);
        house.veneer(0, 10, 0, 5, false);
        CHECK.due("the lowest of kind 1", house.best(5, 50, 50), 010001);
    }

    // "NONE if there is none"
    private static void noBest() {
        PlyHouse house = houseOf(new int[] {10, 0, 1, 1}, new int[] {20, 0, 1, 1});
        CHECK.due("nothing between", house.best(3, 51, 59), -1);
        CHECK.due("something", house.best(3, 51, 60), 0111);
        CHECK.due("not odd multiples", house.best(1, 15, 15), -1);
        CHECK.due("beyond all", house.best(9, 991, 5000), -1);
    }
}
