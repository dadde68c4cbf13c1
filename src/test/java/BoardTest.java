import java.util.Random;

/** Promises 15 to 18: veneer, board, warp, best. */
public final class BoardTest {
    private static final Check CHECK = new Check();
    private static final int NO_WARP = -2000000;

    public static void main(String[] args) {
        firstVeneers();
        wrongVeneers();
        boardsThatCantBe();
        bestEdges();
        againstModel();
        CHECK.finish("BoardTest");
    }

    private static void firstVeneers() {
        PlyHouse house = new PlyHouse();
        for (int kind = 0; kind < 6; kind++) {
            CHECK.due("thin", house.board(1, kind, 0), 10);
            CHECK.due("thick", house.board(1, kind, 1), 10);
            CHECK.due("price", house.board(1, kind, 2), 1);
        }
        CHECK.due("all are fair: the first", house.best(9, 0, 1000), 0);
        CHECK.due("warp of two", house.warp(2, 0), -200);
        CHECK.due("warp of nine", house.warp(9, 0), 0);
    }

    private static void wrongVeneers() {
        PlyHouse house = new PlyHouse();
        CHECK.due("edges", house.veneer(5, 90, 20, 1000, false), true);
        CHECK.due("least", house.veneer(4, 1, 1, 0, true), true);
        CHECK.due("thin of least", house.board(1, 4, 0), 0);
        CHECK.due("thick of least", house.board(1, 4, 1), 2);
        int[][] wrong = {{-1, 1, 0, 0}, {6, 1, 0, 0}, {5, 0, 0, 0}, {5, 91, 0, 0}, {5, 10, -1, 0}, {5, 10, 11, 0},
            {5, 90, 21, 0}, {5, 10, 0, -1}, {5, 10, 0, 1001}, {Integer.MIN_VALUE, 1, 0, 0},
            {5, Integer.MAX_VALUE, 0, 0}, {5, 10, Integer.MIN_VALUE, 0}};
        for (int[] told : wrong) {
            CHECK.due("wrong veneer", house.veneer(told[0], told[1], told[2], told[3], true), false);
        }
        CHECK.due("nothing done: thin", house.board(1, 5, 0), 70);
        CHECK.due("nothing done: thick", house.board(1, 5, 1), 110);
        CHECK.due("nothing done: price", house.board(1, 5, 2), 1000);
        CHECK.due("nothing done: fair", house.best(1, 70, 110), -1);
    }

    private static void boardsThatCantBe() {
        PlyHouse house = new PlyHouse();
        int[][] wrong = {{0, 0}, {-1, 0}, {10, 0}, {1, 8}, {1, 6}, {1, 7}, {2, 060}, {2, 0100}, {9, 0600000000},
            {9, 01000000000}, {9, -1}, {1, Integer.MIN_VALUE}, {Integer.MAX_VALUE, 0}, {Integer.MIN_VALUE, 0},
            {11, 0}, {3, 0770}};
        for (int[] told : wrong) {
            for (int what = 0; what < 3; what++) {
                CHECK.due("board that can't be", house.board(told[0], told[1], what), -1);
            }
            CHECK.due("warp of what can't be", house.warp(told[0], told[1]), NO_WARP);
        }
        CHECK.due("nine layers", house.board(9, 0555555555, 0), 90);
        CHECK.due("what 3", house.board(9, 0, 3), -1);
        CHECK.due("what -1", house.board(9, 0, -1), -1);
    }

    private static void bestEdges() {
        PlyHouse house = new PlyHouse();
        for (int n = -3; n < 13; n++) {
            boolean odd = n >= 1 && n <= 9 && n % 2 == 1;
            CHECK.due("best of " + n, house.best(n, 0, 1000), odd ? 0 : -1);
        }
        CHECK.due("least n", house.best(Integer.MIN_VALUE, 0, 1000), -1);
        CHECK.due("just", house.best(3, 30, 30), 0);
        CHECK.due("too low", house.best(3, 31, 1000), -1);
        CHECK.due("too high", house.best(3, 0, 29), -1);
        CHECK.due("all", house.best(9, Integer.MIN_VALUE, Integer.MAX_VALUE), 0);
        CHECK.due("crossed", house.best(9, Integer.MAX_VALUE, Integer.MIN_VALUE), -1);
        house.veneer(0, 10, 0, 1, false);
        CHECK.due("the outer ones fair", house.best(3, 0, 100), 0101);
        house.veneer(1, 10, 0, 3, true);
        house.veneer(2, 20, 0, 2, true);
        for (int kind = 3; kind < 6; kind++) {
            house.veneer(kind, 10, 0, 3, true);
        }
        CHECK.due("price goes first", house.best(3, 0, 100), 0202);
        CHECK.due("from the lowest on", house.best(5, 0, 80), 020002);
        for (int kind = 0; kind < 6; kind++) {
            house.veneer(kind, 10, 0, 1, false);
        }
        CHECK.due("none fair", house.best(5, 0, 1000), -1);
    }

    private static void againstModel() {
        Random random = new Random(2);
        for (int run = 0; run < 400; run++) {
            PlyHouse house = new PlyHouse();
            int[][] kinds = new int[6][];
            for (int kind = 0; kind < 6; kind++) {
                int thick = 1 + random.nextInt(run % 2 == 0 ? 90 : 6);
                int off = random.nextInt(Math.min(20, thick) + 1);
                int price = random.nextInt(run % 3 == 0 ? 1001 : 4);
                int fair = random.nextInt(3) > 0 ? 1 : 0;
                kinds[kind] = new int[] {thick, off, price, fair};
                CHECK.due("veneer", house.veneer(kind, thick, off, price, fair == 1), true);
            }
            compareBoards(house, kinds, random);
            int n = 1 + 2 * random.nextInt(5);
            int low = random.nextInt(n * (run % 2 == 0 ? 80 : 6));
            int high = low + random.nextInt(n * (run % 2 == 0 ? 40 : 4));
            CHECK.due("best", house.best(n, low, high), modelBest(kinds, n, low, high));
        }
    }

    private static void compareBoards(PlyHouse house, int[][] kinds, Random random) {
        for (int times = 0; times < 10; times++) {
            int n = 1 + random.nextInt(9);
            int[] layers = new int[n];
            int told = 0;
            for (int layer = 0; layer < n; layer++) {
                layers[layer] = random.nextInt(6);
                told |= layers[layer] << 3 * layer;
            }
            int[] sums = modelSums(kinds, layers);
            for (int what = 0; what < 3; what++) {
                CHECK.due("board " + what, house.board(n, told, what), sums[what]);
            }
            int warp = 0;
            for (int layer = 0; layer < n; layer++) {
                int pull = 0;
                for (int other = 0; other < n; other++) {
                    pull += Integer.compare(layer, other) * kinds[layers[other]][0];
                }
                warp += (layer % 2 == 0 ? 1 : -1) * kinds[layers[layer]][0] * pull;
            }
            CHECK.due("warp", house.warp(n, told), warp);
        }
    }

    private static int[] modelSums(int[][] kinds, int[] layers) {
        int[] sums = new int[3];
        for (int kind : layers) {
            sums[0] += kinds[kind][0] - kinds[kind][1];
            sums[1] += kinds[kind][0] + kinds[kind][1];
            sums[2] += kinds[kind][2];
        }
        return sums;
    }

    /** Goes through all boards whose lower half and middle are told by the digits of a number, in any order. */
    private static int modelBest(int[][] kinds, int n, int low, int high) {
        int half = n / 2 + 1;
        int ways = (int) Math.round(Math.pow(6, half));
        int[] best = null;
        int bestPrice = 0;
        for (int way = ways - 1; way >= 0; way--) {
            int[] layers = new int[n];
            int rest = way;
            for (int layer = 0; layer < half; layer++) {
                layers[layer] = rest % 6;
                layers[n - 1 - layer] = rest % 6;
                rest /= 6;
            }
            int[] sums = modelSums(kinds, layers);
            if (kinds[layers[0]][3] == 0 || sums[0] < low || sums[1] > high) {
                continue;
            }
            boolean cheaper = best == null || sums[2] < bestPrice;
            if (cheaper || (sums[2] == bestPrice && java.util.Arrays.compare(layers, best) < 0)) {
                best = layers;
                bestPrice = sums[2];
            }
        }
        int told = best == null ? -1 : 0;
        for (int layer = 0; best != null && layer < n; layer++) {
            told |= best[layer] << 3 * layer;
        }
        return told;
    }
}
