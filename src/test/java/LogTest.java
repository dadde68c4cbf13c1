import java.util.Random;

/** Promises 1 to 4: a new object's net, net, centre, full. */
public final class LogTest {
    private static final Check CHECK = new Check();

    public static void main(String[] args) {
        emptyNet();
        edgesOfNet();
        wholeNet();
        ties();
        fullLeaves();
        againstModel();
        CHECK.finish("LogTest");
    }

    private static void emptyNet() {
        PlyHouse house = new PlyHouse();
        for (int what = -1; what < 4; what++) {
            CHECK.due("empty centre", house.centre(what), -1);
        }
        CHECK.due("empty full", house.full(1, 1), -1);
        house.net(3, 8);
        CHECK.due("one cell", house.centre(2), 0);
        house.net(3, 0);
        CHECK.due("none again", house.centre(2), -1);
        CHECK.due("full of none again", house.full(1, 1), -1);
    }

    private static void edgesOfNet() {
        PlyHouse house = new PlyHouse();
        CHECK.due("row -1", house.net(-1, 1), false);
        CHECK.due("row 24", house.net(24, 1), false);
        CHECK.due("row least", house.net(Integer.MIN_VALUE, 1), false);
        CHECK.due("column 24", house.net(0, 1 << 24), false);
        CHECK.due("below 0", house.net(0, Integer.MIN_VALUE), false);
        CHECK.due("nothing done", house.centre(2), -1);
        CHECK.due("row 23", house.net(23, 1 << 23), true);
        CHECK.due("last row", house.centre(0), 23);
        CHECK.due("last column", house.centre(1), 23);
        CHECK.due("false leaves the row", house.net(23, 1 << 25), false);
        CHECK.due("last row stays", house.centre(0), 23);
    }

    private static void wholeNet() {
        PlyHouse house = new PlyHouse();
        for (int row = 0; row < 24; row++) {
            CHECK.due("whole row", house.net(row, (1 << 24) - 1), true);
        }
        CHECK.due("radius of all", house.centre(2), 11);
        CHECK.due("row of all", house.centre(0), 11);
        CHECK.due("column of all", house.centre(1), 11);
        CHECK.due("what 3", house.centre(3), -1);
        CHECK.due("what -1", house.centre(-1), -1);
        CHECK.due("full of all", house.full(1, 1), (115 * 115 - 1) * 22 / 7);
        CHECK.due("core 114", house.full(114, 1), (115 * 115 - 114 * 114) * 22 / 7);
        CHECK.due("core 115", house.full(115, 1), 0);
        CHECK.due("core 200", house.full(200, 50), 0);
        house.net(0, ((1 << 24) - 1) & ~(1 << 11));
        CHECK.due("without the tip above: column", house.centre(1), 12);
        house.net(0, 0);
        CHECK.due("without row 0: row", house.centre(0), 12);
    }

    private static void ties() {
        PlyHouse house = new PlyHouse();
        house.net(5, 1 << 9 | 1 << 4);
        house.net(7, 1);
        CHECK.due("least row", house.centre(0), 5);
        CHECK.due("then least column", house.centre(1), 4);
    }

    private static void fullLeaves() {
        PlyHouse house = new PlyHouse();
        house.net(0, 1);
        CHECK.due("r 0", house.full(1, 1), (25 - 1) * 22 / 7);
        CHECK.due("r 0, thick 50", house.full(1, 50), (25 - 1) * 22 / 350);
        CHECK.due("r 0, core 5", house.full(5, 1), 0);
        int[] badCores = {Integer.MIN_VALUE, -1, 0, 201, Integer.MAX_VALUE};
        for (int core : badCores) {
            CHECK.due("core " + core, house.full(core, 1), -1);
        }
        int[] badThicks = {Integer.MIN_VALUE, -1, 0, 51, Integer.MAX_VALUE};
        for (int thick : badThicks) {
            CHECK.due("thick " + thick, house.full(1, thick), -1);
        }
    }

    private static void againstModel() {
        Random random = new Random(1);
        for (int run = 0; run < 300; run++) {
            PlyHouse house = new PlyHouse();
            boolean[][] cells = new boolean[24][24];
            int gaps = run % 30;
            for (int row = 0; row < 24; row++) {
                for (int column = 0; column < 24; column++) {
                    cells[row][column] = random.nextInt(200) >= gaps;
                }
            }
            for (int step = 0; step < 3; step++) {
                int changed = random.nextInt(24);
                cells[changed][random.nextInt(24)] = random.nextBoolean();
                for (int row = 0; row < 24; row++) {
                    if (step == 0 || row == changed) {
                        house.net(row, bitsOf(cells[row]));
                    }
                }
                compare(house, cells, random);
            }
        }
    }

    private static int bitsOf(boolean[] row) {
        int bits = 0;
        for (int column = 0; column < 24; column++) {
            bits |= row[column] ? 1 << column : 0;
        }
        return bits;
    }

    private static void compare(PlyHouse house, boolean[][] cells, Random random) {
        int[] centre = modelCentre(cells);
        for (int what = 0; what < 3; what++) {
            CHECK.due("centre " + what, house.centre(what), centre[what]);
        }
        int core = 1 + random.nextInt(130);
        int thick = 1 + random.nextInt(50);
        int outer = 10 * centre[2] + 5;
        int full = core >= outer ? 0 : (int) Math.floor((outer * outer - core * core) * 22.0 / (7 * thick));
        CHECK.due("full", house.full(core, thick), centre[2] < 0 ? -1 : full);
    }

    private static int[] modelCentre(boolean[][] cells) {
        for (int radius = 11; radius >= 0; radius--) {
            for (int row = 0; row < 24; row++) {
                for (int column = 0; column < 24; column++) {
                    if (modelFits(cells, row, column, radius)) {
                        return new int[] {row, column, radius};
                    }
                }
            }
        }
        return new int[] {-1, -1, -1};
    }

    private static boolean modelFits(boolean[][] cells, int row, int column, int radius) {
        for (int down = -radius; down <= radius; down++) {
            for (int right = -radius; right <= radius; right++) {
                if (down * down + right * right > radius * radius) {
                    continue;
                }
                int y = row + down;
                int x = column + right;
                if (y < 0 || y > 23 || x < 0 || x > 23 || !cells[y][x]) {
                    return false;
                }
            }
        }
        return true;
    }
}
