/** The boundary cases of part 1 of the terms and of promises 1 to 4, a method for each sentence that names one. */
public final class LogEdgesTest {
    private static final Check CHECK = new Check();
    private static final int SIZE = 24;
    private static final int ALL = (1 << SIZE) - 1;

    public static void main(String[] args) {
        newNetIsEmpty();
        rowsAndColumns();
        noSuchRow();
        noSuchColumn();
        rowIsPutAgain();
        discHasAllCellsOfItsRadius();
        discIsOnTheNet();
        greatestRadius();
        greatestDiscBeforeLeastRow();
        leastRowThenLeastColumn();
        whatOfCentre();
        noCellInLog();
        coreAndThick();
        coreAgainstRadius();
        fullIsCut();
        CHECK.finish("LogEdgesTest");
    }

    private static void centreIs(String log, PlyHouse house, int row, int column, int radius) {
        CHECK.due("row of " + log, house.centre(0), row);
        CHECK.due("column of " + log, house.centre(1), column);
        CHECK.due("radius of " + log, house.centre(2), radius);
    }

    private static PlyHouse houseOf(int[] rows) {
        PlyHouse house = new PlyHouse();
        for (int row = 0; row < SIZE; row++) {
            CHECK.due("net", house.net(row, rows[row]), true);
        }
        return house;
    }

    private static PlyHouse houseOfAll() {
        int[] rows = new int[SIZE];
        java.util.Arrays.fill(rows, ALL);
        return houseOf(rows);
    }

    /** The cells of a disc; what lies beyond an edge of the net comes in again at the opposite one. */
    private static int[] disc(int row, int column, int radius) {
        int[] rows = new int[SIZE];
        for (int down = -radius; down <= radius; down++) {
            for (int right = -radius; right <= radius; right++) {
                if (down * down + right * right <= radius * radius) {
                    rows[(row + down + SIZE) % SIZE] |= 1 << (column + right + SIZE) % SIZE;
                }
            }
        }
        return rows;
    }

    private static int[] both(int[] some, int[] others) {
        int[] rows = new int[SIZE];
        for (int row = 0; row < SIZE; row++) {
            rows[row] = some[row] | others[row];
        }
        return rows;
    }

    // "An empty net."
    private static void newNetIsEmpty() {
        centreIs("a new object", new PlyHouse(), -1, -1, -1);
        CHECK.due("full of a new object", new PlyHouse().full(1, 1), -1);
    }

    // "24 x 24 CELLS (rows, columns 0 .. 23)", "column 0: 1"
    private static void rowsAndColumns() {
        for (int row = 0; row < SIZE; row++) {
            for (int column = 0; column < SIZE; column++) {
                PlyHouse house = new PlyHouse();
                CHECK.due("net of one cell", house.net(row, 1 << column), true);
                centreIs("one cell", house, row, column, 0);
            }
        }
    }

    // "false, doing nothing, if there is no such row"
    private static void noSuchRow() {
        CHECK.bounds("row", row -> new PlyHouse().net(row, 1), 0, 23);
        int[] wrong = {-1, 24, -24, 47, Integer.MIN_VALUE, Integer.MAX_VALUE};
        for (int row : wrong) {
            PlyHouse house = new PlyHouse();
            CHECK.due("no such row", house.net(row, ALL), false);
            centreIs("none put", house, -1, -1, -1);
            house.net(0, 2);
            house.net(23, 4);
            CHECK.due("no such row, to be emptied", house.net(row, 0), false);
            centreIs("row 0 that stays", house, 0, 1, 0);
            house.net(0, 0);
            centreIs("row 23 that stays", house, 23, 2, 0);
        }
    }

    // "false, doing nothing, if there is no such .. column"
    private static void noSuchColumn() {
        CHECK.bounds("cells", cells -> new PlyHouse().net(5, cells), 0, ALL);
        for (int column = SIZE; column < 32; column++) {
            PlyHouse house = new PlyHouse();
            house.net(5, 1 << 7);
            CHECK.due("no such column", house.net(5, 1 << column), false);
            CHECK.due("no such column among others", house.net(5, 1 << column | 1), false);
            CHECK.due("no such column in an empty row", house.net(4, 1 << column | 1), false);
            centreIs("a row that stays", house, 5, 7, 0);
        }
    }

    private static void rowIsPutAgain() {
        PlyHouse house = houseOfAll();
        house.net(11, 0);
        centreIs("all but row 11", house, 5, 5, 5);
        house.net(11, ALL);
        centreIs("all again", house, 11, 11, 11);
        house.net(11, ALL - 1);
        centreIs("all but a tip", house, 11, 12, 11);
    }

    // "the squares of both together are r * r at most"
    private static void discHasAllCellsOfItsRadius() {
        for (int radius = 0; radius <= 11; radius++) {
            int[] rows = disc(12, 11, radius);
            centreIs("a disc of " + radius, houseOf(rows), 12, 11, radius);
            for (int cell = 0; cell < SIZE * SIZE; cell++) {
                int bit = 1 << cell % SIZE;
                if (radius > 0 && (rows[cell / SIZE] & bit) != 0) {
                    int[] less = rows.clone();
                    less[cell / SIZE] -= bit;
                    CHECK.due("a disc of " + radius + " less a cell", houseOf(less).centre(2) < radius, true);
                }
            }
        }
    }

    // "all these are on the net"
    private static void discIsOnTheNet() {
        for (int radius = 1; radius <= 11; radius++) {
            int last = 23 - radius;
            int[][] on = {{radius, 11}, {last, 11}, {11, radius}, {11, last}, {radius, radius}, {last, last}};
            for (int[] at : on) {
                centreIs("a disc at the edge", houseOf(disc(at[0], at[1], radius)), at[0], at[1], radius);
            }
            int[][] off = {{radius - 1, 11}, {last + 1, 11}, {11, radius - 1}, {11, last + 1}};
            for (int[] at : off) {
                PlyHouse house = houseOf(disc(at[0], at[1], radius));
                CHECK.due("a disc of " + radius + " over the edge", house.centre(2) < radius, true);
            }
        }
    }

    // "radius r (0 .. 11)"
    private static void greatestRadius() {
        centreIs("all cells", houseOfAll(), 11, 11, 11);
        PlyHouse house = new PlyHouse();
        house.net(23, 1 << 23);
        centreIs("one cell", house, 23, 23, 0);
    }

    // "the CELL at which the greatest DISC fits"
    private static void greatestDiscBeforeLeastRow() {
        for (int radius = 1; radius <= 5; radius++) {
            int[] lesser = disc(radius, radius, radius - 1);
            PlyHouse house = houseOf(both(lesser, disc(17, 17, radius)));
            centreIs("the greater one behind", house, 17, 17, radius);
        }
    }

    // "of like ones the least row, then the least column"
    private static void leastRowThenLeastColumn() {
        for (int radius = 0; radius <= 5; radius++) {
            centreIs("least row", houseOf(both(disc(6, 18, radius), disc(18, 5, radius))), 6, 18, radius);
            centreIs("row before", houseOf(both(disc(5, 18, radius), disc(6, 5, radius))), 5, 18, radius);
            centreIs("least column", houseOf(both(disc(9, 18, radius), disc(9, 6, radius))), 9, 6, radius);
            centreIs("column before", houseOf(both(disc(9, 7, radius), disc(9, 6, radius))), 9, 6, radius);
        }
    }

    // "what 0: its row, 1: column, 2: radius. NONE for another what"
    private static void whatOfCentre() {
        PlyHouse house = houseOf(disc(3, 8, 2));
        centreIs("a disc", house, 3, 8, 2);
        CHECK.bounds("what of centre", what -> house.centre(what) != -1, 0, 2);
    }

    // "NONE .. if no CELL is in the LOG"
    private static void noCellInLog() {
        PlyHouse house = new PlyHouse();
        CHECK.due("an empty row", house.net(7, 0), true);
        centreIs("an empty row", house, -1, -1, -1);
        CHECK.due("full of an empty row", house.full(200, 50), -1);
        house.net(7, 1 << 3);
        CHECK.due("full of one cell", house.full(200, 50), 0);
        house.net(7, 0);
        centreIs("emptied", house, -1, -1, -1);
        CHECK.due("full of none", house.full(1, 1), -1);
        CHECK.due("what 3 of none", house.centre(3), -1);
    }

    // "FULL by a core (1 .. 200) and how thick (1 .. 50); NONE if one can't be"
    private static void coreAndThick() {
        PlyHouse house = houseOfAll();
        CHECK.bounds("core", core -> house.full(core, 1) != -1, 1, 200);
        CHECK.bounds("core of a thick leaf", core -> house.full(core, 50) != -1, 1, 200);
        CHECK.bounds("thick", thick -> house.full(1, thick) != -1, 1, 50);
        CHECK.bounds("thick at no leaf", thick -> house.full(200, thick) != -1, 1, 50);
        CHECK.due("neither can be", house.full(0, 0), -1);
        centreIs("all, asked wrongly", house, 11, 11, 11);
    }

    // "0 if c is R or more"
    private static void coreAgainstRadius() {
        for (int radius = 0; radius <= 11; radius++) {
            PlyHouse house = houseOf(disc(12, 11, radius));
            int outer = 10 * radius + 5;
            CHECK.due("core R - 1", house.full(outer - 1, 1), (2 * outer - 1) * 22 / 7);
            CHECK.due("core R", house.full(outer, 1), 0);
            CHECK.due("core R + 1", house.full(outer + 1, 1), 0);
            CHECK.due("core 200", house.full(200, 1), 0);
        }
    }

    // "(R * R - c * c) * 22 / (7 * t), cut"
    private static void fullIsCut() {
        PlyHouse house = houseOf(disc(12, 11, 0));
        CHECK.due("528 / 7 = 75.4", house.full(1, 1), 75);
        CHECK.due("528 / 350 = 1.5", house.full(1, 50), 1);
        CHECK.due("198 / 350 = 0.6", house.full(4, 50), 0);
        CHECK.due("198 / 196 = 1.01", house.full(4, 28), 1);
        CHECK.due("198 / 203 = 0.98", house.full(4, 29), 0);
        PlyHouse great = houseOfAll();
        CHECK.due("the longest", great.full(1, 1), 41561);
        for (int core = 1; core < 115; core += 19) {
            for (int thick = 1; thick <= 50; thick++) {
                long over = (115L * 115 - core * core) * 22;
                long due = 0;
                while ((due + 1) * 7 * thick <= over) {
                    due++;
                }
                CHECK.due("full of " + core + ", " + thick, great.full(core, thick), due);
            }
        }
    }
}
