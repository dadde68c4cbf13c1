/** The boundary cases of promises 5 to 9 and 24 that are of the tape and of the leaf, a method for each sentence. */
public final class TapeEdgesTest {
    private static final Check CHECK = new Check();
    private static final int DOTS = 0x2e2e2e2e;
    private static final int KNOTS = 0x6b6b6b6b;

    public static void main(String[] args) {
        newTapeIsEmpty();
        twentyBytesComeBehind();
        highestByteFirst();
        noMoreThanSixHundred();
        refusedFeedBringsNothing();
        firstBytesStay();
        refusedEndDoesNothing();
        tapeIsEmptyThen();
        newLeafIsEmpty();
        leafOfAnyLength();
        the301st();
        bytesThatAreMarks();
        firstByteThatIsNoMark();
        leafThatThereIsStays();
        faultIsOfTheLatest();
        whatOfFault();
        whatOfAbout();
        CHECK.finish("TapeEdgesTest");
    }

    private static int feedAll(PlyHouse house, int word) {
        return house.feed(word, word, word, word, word);
    }

    private static PlyHouse houseWith(int bytes) {
        PlyHouse house = new PlyHouse();
        for (int there = 0; there < bytes; there += 20) {
            CHECK.due("feed", feedAll(house, DOTS), there + 20);
        }
        CHECK.due("end", house.end(bytes), bytes);
        return house;
    }

    private static void latest(PlyHouse house, int fault, int place) {
        CHECK.due("fault", house.fault(0), fault);
        CHECK.due("its place", house.fault(1), place);
    }

    private static void newTapeIsEmpty() {
        CHECK.due("bytes of a new object", new PlyHouse().about(3), 0);
        CHECK.due("its grades", new PlyHouse().grades(), 0);
        CHECK.due("its leaf", new PlyHouse().leaf(), 0);
    }

    // "Twenty bytes come behind those on the TAPE .. : how many there are"
    private static void twentyBytesComeBehind() {
        PlyHouse house = houseWith(7);
        CHECK.due("twenty more", feedAll(house, KNOTS), 27);
        CHECK.due("all are marks", house.leaf(), 27);
        Check.grades(house, "grade 1 worth 1 when knots=1;");
        for (int mark = 0; mark < 27; mark++) {
            CHECK.due("the knots stand behind", house.sheet(mark, 0, 0), mark < 7 ? 0 : 1);
        }
    }

    // "the highest of each first"
    private static void highestByteFirst() {
        for (int at = 0; at < 20; at++) {
            int[] words = {DOTS, DOTS, DOTS, DOTS, DOTS};
            int shift = 24 - at % 4 * 8;
            words[at / 4] |= 0xff << shift;
            PlyHouse house = new PlyHouse();
            house.feed(words[0], words[1], words[2], words[3], words[4]);
            CHECK.due("a byte that is no mark", house.leaf(), -1);
            latest(house, 1, at);
        }
    }

    // "NONE .. if there would be more than 600"
    private static void noMoreThanSixHundred() {
        for (int bytes = 570; bytes <= 600; bytes++) {
            PlyHouse house = houseWith(bytes);
            CHECK.due("feed behind " + bytes, feedAll(house, DOTS), bytes <= 580 ? bytes + 20 : -1);
            CHECK.due("bytes then", house.about(3), bytes <= 580 ? bytes + 20 : bytes);
        }
    }

    // "NONE, and nothing comes"
    private static void refusedFeedBringsNothing() {
        PlyHouse house = houseWith(600);
        CHECK.due("full", feedAll(house, KNOTS), -1);
        CHECK.due("still full", feedAll(house, 0), -1);
        CHECK.due("its first 300", house.end(300), 300);
        CHECK.due("are marks", house.leaf(), 300);
        Check.grades(house, "grade 100 worth 1 when run=100;");
        CHECK.due("and clear ones", house.worth(), 3);
        house = houseWith(581);
        CHECK.due("refused behind 581", feedAll(house, KNOTS), -1);
        CHECK.due("cut to 580", house.end(580), 580);
        CHECK.due("taken behind 580", feedAll(house, DOTS), 600);
    }

    // "The TAPE has its first n bytes: n"
    private static void firstBytesStay() {
        PlyHouse house = new PlyHouse();
        CHECK.due("none of none", house.end(0), 0);
        house.feed(0x2e6b736f, DOTS, DOTS, DOTS, DOTS);
        CHECK.due("all", house.end(20), 20);
        CHECK.due("four", house.end(4), 4);
        CHECK.due("four again", house.end(4), 4);
        CHECK.due("four there", house.about(3), 4);
        CHECK.due("four marks", house.leaf(), 4);
        Check.grades(house, "grade 4 worth 1 when knots=1 and splits=1 and holes=1 and run=1;");
        CHECK.due("the first four", house.sheet(0, 0, 0), 1);
        feedAll(house, DOTS);
        CHECK.due("none", house.end(0), 0);
        CHECK.due("none there", house.about(3), 0);
        CHECK.due("cut bytes do not come back", house.end(1), -1);
        CHECK.due("an empty leaf", house.leaf(), 0);
    }

    // "NONE, doing nothing, if it has not so many, or n is below 0"
    private static void refusedEndDoesNothing() {
        int[] lengths = {0, 1, 20, 599, 600};
        for (int bytes : lengths) {
            PlyHouse house = houseWith(bytes);
            int[] wrong = {bytes + 1, -1, bytes + 20, 601, Integer.MIN_VALUE, Integer.MAX_VALUE};
            for (int n : wrong) {
                CHECK.due("end " + n + " of " + bytes, house.end(n), -1);
                CHECK.due("bytes still", house.about(3), bytes);
            }
            CHECK.due("all of them", house.end(bytes), bytes);
        }
        PlyHouse house = houseWith(3);
        CHECK.due("not so many", house.end(4), -1);
        CHECK.due("three marks still", house.leaf(), 3);
    }

    // "The TAPE (empty then)": after what can be read, and after a FAULT
    private static void tapeIsEmptyThen() {
        String[] texts = {"", "...", "grade 1 worth 1;", "$"};
        for (String text : texts) {
            PlyHouse house = new PlyHouse();
            Check.leaf(house, text);
            CHECK.due("behind the leaf " + text, house.about(3), 0);
            Check.grades(house, text);
            CHECK.due("behind the grades " + text, house.about(3), 0);
            CHECK.due("no bytes to keep", house.end(1), -1);
            CHECK.due("nothing ahead", feedAll(house, DOTS), 20);
        }
    }

    // "an empty LEAF"
    private static void newLeafIsEmpty() {
        PlyHouse house = new PlyHouse();
        CHECK.due("marks of a new object", house.about(1), 0);
        Check.grades(house, "grade 1 worth 1;");
        CHECK.due("no part of it", house.sheet(0, 0, 0), -1);
        CHECK.due("worth nothing", house.worth(), 0);
    }

    // "a text of at most 300 bytes", "how many marks"
    private static void leafOfAnyLength() {
        for (int length = 0; length <= 300; length++) {
            PlyHouse house = new PlyHouse();
            CHECK.due("leaf of " + length, Check.leaf(house, "s".repeat(length)), length);
            CHECK.due("its marks", house.about(1), length);
            latest(house, 0, -1);
        }
    }

    // "1: a byte that is no mark, or the 301st"
    private static void the301st() {
        int[] lengths = {301, 302, 320, 599, 600};
        for (int length : lengths) {
            PlyHouse house = new PlyHouse();
            CHECK.due("leaf of " + length, Check.leaf(house, "p".repeat(length)), -1);
            latest(house, 1, 300);
        }
        PlyHouse house = new PlyHouse();
        CHECK.due("the 301st no mark either", Check.leaf(house, "p".repeat(300) + "$"), -1);
        latest(house, 1, 300);
        CHECK.due("the 300th no mark", Check.leaf(house, "p".repeat(299) + "$p"), -1);
        latest(house, 1, 299);
        CHECK.due("the 300th alone no mark", Check.leaf(house, "p".repeat(299) + "$"), -1);
        latest(house, 1, 299);
    }

    // ". (clear), k (a knot), s (a split), o (a hole), p (a plug)": no other byte of the 256
    private static void bytesThatAreMarks() {
        for (int sign = 0; sign < 256; sign++) {
            PlyHouse house = new PlyHouse();
            boolean mark = ".ksop".indexOf(sign) >= 0;
            CHECK.due("byte " + sign, Check.leaf(house, "." + (char) sign + "."), mark ? 3 : -1);
            latest(house, mark ? 0 : 1, mark ? -1 : 1);
        }
    }

    // "the first by its place"
    private static void firstByteThatIsNoMark() {
        PlyHouse house = new PlyHouse();
        CHECK.due("two that are no marks", Check.leaf(house, "..k..x..y"), -1);
        latest(house, 1, 5);
        CHECK.due("at once", Check.leaf(house, " "), -1);
        latest(house, 1, 0);
    }

    // "NONE: a FAULT (that there is stays)"
    private static void leafThatThereIsStays() {
        PlyHouse house = new PlyHouse();
        Check.grades(house, "grade 2 worth 5 when knots=1;grade 1 worth 3 when plugs=1;");
        CHECK.due("a leaf", Check.leaf(house, "p.k"), 3);
        String[] wrong = {"kkkkk ", "$", ".".repeat(301)};
        for (String text : wrong) {
            CHECK.due("no leaf", Check.leaf(house, text), -1);
            CHECK.due("marks that stay", house.about(1), 3);
            CHECK.due("worth that stays", house.worth(), 8);
            CHECK.due("a part that stays", house.sheet(1, 0, 0), 1);
            CHECK.due("no other part", house.sheet(0, 0, 0), 0);
            CHECK.due("none beyond", house.sheet(2, 0, 0), -1);
        }
        CHECK.due("an empty leaf takes its place", house.leaf(), 0);
        CHECK.due("no marks", house.about(1), 0);
        CHECK.due("no worth", house.worth(), 0);
    }

    // "Of the latest grades() or leaf() .. its FAULT (0 ..), .. its place (NONE)"
    private static void faultIsOfTheLatest() {
        PlyHouse house = new PlyHouse();
        latest(house, 0, -1);
        Check.grades(house, "grade 1 worth 0");
        latest(house, 3, 14);
        Check.leaf(house, ".x");
        latest(house, 1, 1);
        Check.grades(house, " ;");
        latest(house, 2, 1);
        feedAll(house, 0);
        house.end(21);
        house.end(0);
        house.patch(4, 4);
        house.fault(2);
        latest(house, 2, 1);
        house.leaf();
        latest(house, 0, -1);
        Check.leaf(house, "x");
        latest(house, 1, 0);
        house.grades();
        latest(house, 0, -1);
    }

    // "NONE for another what"
    private static void whatOfFault() {
        PlyHouse house = new PlyHouse();
        Check.grades(house, "grade 0");
        CHECK.bounds("what of fault", what -> house.fault(what) != -1, 0, 1);
        latest(house, 3, 6);
    }

    // "0: lines of GRADES, 1: marks of the LEAF, 2: BOARDS GLUED, 3: bytes on the TAPE. NONE for another what"
    private static void whatOfAbout() {
        PlyHouse house = new PlyHouse();
        for (int what = 0; what < 4; what++) {
            CHECK.due("about a new object", house.about(what), 0);
        }
        Check.grades(house, "grade 1 worth 1;grade 2 worth 2;");
        Check.leaf(house, "kkk");
        house.glue(1, 1);
        feedAll(house, DOTS);
        int[] due = {2, 3, 1, 20};
        for (int what = 0; what < 4; what++) {
            CHECK.due("about " + what, house.about(what), due[what]);
        }
        CHECK.bounds("what of about", what -> house.about(what) != -1, 0, 3);
    }
}
