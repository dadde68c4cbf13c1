/** Promises 1, 5, 6, 8, 9 and 24: a new object, feed, end, fault, leaf, about. */
public final class TapeTest {
    private static final Check CHECK = new Check();
    private static final int DOTS = 0x2e2e2e2e;

    public static void main(String[] args) {
        newObject();
        feeding();
        ending();
        byteOrder();
        leaves();
        faultsOfLatest();
        CHECK.finish("TapeTest");
    }

    private static void newObject() {
        PlyHouse house = new PlyHouse();
        for (int what = 0; what < 4; what++) {
            CHECK.due("about " + what, house.about(what), 0);
        }
        CHECK.due("about 4", house.about(4), -1);
        CHECK.due("about -1", house.about(-1), -1);
        CHECK.due("fault 0", house.fault(0), 0);
        CHECK.due("fault 1", house.fault(1), -1);
        CHECK.due("fault 2", house.fault(2), -1);
        CHECK.due("worth", house.worth(), 0);
        CHECK.due("sheets", house.sheets(), 0);
        CHECK.due("clipped", house.clipped(0, 0), -1);
        CHECK.due("sheet", house.sheet(0, 0, 0), -1);
        CHECK.due("plan 3", house.plan(3), 0);
        CHECK.due("drop", house.drop(), false);
    }

    private static void feeding() {
        PlyHouse house = new PlyHouse();
        for (int times = 1; times <= 30; times++) {
            CHECK.due("feed", house.feed(DOTS, DOTS, DOTS, DOTS, DOTS), 20 * times);
        }
        CHECK.due("feed 31", house.feed(DOTS, DOTS, DOTS, DOTS, DOTS), -1);
        CHECK.due("still 600", house.about(3), 600);
        CHECK.due("end 581", house.end(581), 581);
        CHECK.due("601 would be too many", house.feed(DOTS, DOTS, DOTS, DOTS, DOTS), -1);
        CHECK.due("still 581", house.about(3), 581);
        CHECK.due("end 580", house.end(580), 580);
        CHECK.due("600 are not", house.feed(DOTS, DOTS, DOTS, DOTS, DOTS), 600);
    }

    private static void ending() {
        PlyHouse house = new PlyHouse();
        CHECK.due("end 0 of 0", house.end(0), 0);
        CHECK.due("end 1 of 0", house.end(1), -1);
        house.feed(DOTS, DOTS, DOTS, DOTS, DOTS);
        CHECK.due("end -1", house.end(-1), -1);
        CHECK.due("end least", house.end(Integer.MIN_VALUE), -1);
        CHECK.due("end 21", house.end(21), -1);
        CHECK.due("nothing done", house.about(3), 20);
        CHECK.due("end 20", house.end(20), 20);
        CHECK.due("end 7", house.end(7), 7);
        CHECK.due("seven", house.about(3), 7);
        CHECK.due("seven marks", house.leaf(), 7);
        CHECK.due("empty then", house.about(3), 0);
    }

    private static void byteOrder() {
        PlyHouse house = new PlyHouse();
        // ".kso" "p..." and a byte above 127 as the first one that is no mark
        house.feed(0x2e6b736f, 0x702e2e2e, DOTS, DOTS, 0x2e2eff2e);
        CHECK.due("no mark", house.leaf(), -1);
        CHECK.due("its place", house.fault(1), 18);
        house.feed(0x2e6b736f, 0x702e2e2e, DOTS, DOTS, 0x2e2eff2e);
        house.end(18);
        CHECK.due("eighteen marks", house.leaf(), 18);
        Check.grades(house, "grade 1 worth 1 when knots=1;grade 1 worth 1 when splits=1;"
            + "grade 1 worth 1 when holes=1;grade 1 worth 1 when plugs=1;grade 1 worth 1 when run=1;");
        String marks = ".ksop";
        int[] lineOf = {4, 0, 1, 2, 3};
        for (int at = 0; at < marks.length(); at++) {
            for (int line = 0; line < 5; line++) {
                CHECK.due("mark " + at + " line " + line, house.sheet(at, line, 0), line == lineOf[at] ? 1 : 0);
            }
        }
    }

    private static void leaves() {
        PlyHouse house = new PlyHouse();
        CHECK.due("empty leaf", house.leaf(), 0);
        CHECK.due("300 marks", Check.leaf(house, "k".repeat(300)), 300);
        CHECK.due("no fault", house.fault(0), 0);
        CHECK.due("no place", house.fault(1), -1);
        CHECK.due("301 marks", Check.leaf(house, "k".repeat(301)), -1);
        CHECK.due("fault of 301", house.fault(0), 1);
        CHECK.due("place of 301", house.fault(1), 300);
        CHECK.due("it stays", house.about(1), 300);
        CHECK.due("tape is empty", house.about(3), 0);
        CHECK.due("600 with a blank", Check.leaf(house, "k".repeat(299) + " " + "k".repeat(300)), -1);
        CHECK.due("place of the blank", house.fault(1), 299);
        CHECK.due("no mark at 0", Check.leaf(house, "K"), -1);
        CHECK.due("place 0", house.fault(1), 0);
        CHECK.due("empty leaf again", house.leaf(), 0);
        CHECK.due("none stay", house.about(1), 0);
    }

    private static void faultsOfLatest() {
        PlyHouse house = new PlyHouse();
        CHECK.due("bad grades", Check.grades(house, " grade 0"), -1);
        CHECK.due("fault 3", house.fault(0), 3);
        CHECK.due("at 7", house.fault(1), 7);
        CHECK.due("good leaf", Check.leaf(house, "..."), 3);
        CHECK.due("fault 0", house.fault(0), 0);
        CHECK.due("at none", house.fault(1), -1);
        CHECK.due("what 2", house.fault(2), -1);
        CHECK.due("what -1", house.fault(-1), -1);
        CHECK.due("bad leaf", Check.leaf(house, "..x"), -1);
        CHECK.due("good grades", Check.grades(house, "grade 1 worth 1;"), 1);
        CHECK.due("fault 0 again", house.fault(0), 0);
        CHECK.due("about 0", house.about(0), 1);
        CHECK.due("about 1", house.about(1), 3);
    }
}
