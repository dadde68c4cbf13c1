/** The boundary cases of sheets and of the clipped leaf (part 2 of the terms, promises 10 to 14), one by one. */
public final class ClipEdgesTest {
    private static final Check CHECK = new Check();

    public static void main(String[] args) {
        asLongAsTheWidth();
        partOfTheLeaf();
        noSuchGrade();
        withoutWhenAlways();
        countsOfNoneAndAll();
        runIsOfThePartAlone();
        comparedWithLikeSums();
        greatSums();
        joinedByTheirRank();
        patchesAndCost();
        refusedPatchDoesNothing();
        patchedNumbers();
        noMorePatchedThanPatches();
        noMorePatchedThanHoles();
        holesLessPlugsMore();
        worthLessWhatPatchingCost();
        nothingToClip();
        sheetsDoNotOverlap();
        worthMostGoesFirst();
        fewestSheets();
        beginsSooner();
        lesserGrade();
        fewerPatched();
        thenByTheNextOne();
        fullOfSheets();
        kthSheet();
        clippedAnew();
        CHECK.finish("ClipEdgesTest");
    }

    private static PlyHouse house(String grades, String leaf) {
        PlyHouse house = new PlyHouse();
        CHECK.due("grades " + grades, Check.grades(house, grades) >= 0, true);
        CHECK.due("leaf " + leaf, Check.leaf(house, leaf), leaf.length());
        return house;
    }

    private static void holds(String e, String leaf, boolean due) {
        PlyHouse house = house("grade " + leaf.length() + " worth 1 when " + e + ";", leaf);
        CHECK.due(e + " of " + leaf, house.sheet(0, 0, 0), due ? 1 : 0);
    }

    /** Its sheets, each {begin, grade, patched}. */
    private static void clips(PlyHouse house, int worth, int[]... sheets) {
        CHECK.due("worth", house.worth(), worth);
        CHECK.due("sheets", house.sheets(), sheets.length);
        for (int k = 0; k < sheets.length; k++) {
            for (int what = 0; what < 3; what++) {
                CHECK.due("sheet " + k + " what " + what, house.clipped(k, what), sheets[k][what]);
            }
        }
        CHECK.due("none behind", house.clipped(sheets.length, 0), -1);
    }

    private static int[] at(int begin, int grade, int patched) {
        return new int[] {begin, grade, patched};
    }

    // "a part of the LEAF as long as the GRADE's width"
    private static void asLongAsTheWidth() {
        int[] widths = {1, 2, 50, 99, 100};
        for (int width : widths) {
            String grades = "grade " + width + " worth 1 when knots=" + width + ";";
            PlyHouse house = house(grades, "." + "k".repeat(width) + "s");
            CHECK.due("one too soon", house.sheet(0, 0, 0), 0);
            CHECK.due("just so", house.sheet(1, 0, 0), 1);
            CHECK.due("one too late", house.sheet(2, 0, 0), 0);
            CHECK.due("beyond the end", house.sheet(3, 0, 0), -1);
            clips(house, 1, at(1, 0, 0));
            clips(house(grades, "k".repeat(width)), 1, at(0, 0, 0));
            clips(house(grades, "k".repeat(width - 1)), 0);
        }
    }

    // "NONE if it is none of the LEAF"
    private static void partOfTheLeaf() {
        PlyHouse house = house("grade 1 worth 1;grade 3 worth 1;grade 100 worth 1;", "....");
        CHECK.bounds("from of width 1", from -> house.sheet(from, 0, 0) != -1, 0, 3);
        CHECK.bounds("from of width 3", from -> house.sheet(from, 1, 0) != -1, 0, 1);
        CHECK.due("wider than the leaf", house.sheet(0, 2, 0), -1);
        CHECK.due("wider than the leaf, so far ahead", house.sheet(-96, 2, 0), -1);
        PlyHouse great = house("grade 100 worth 1;grade 1 worth 1;", ".".repeat(300));
        CHECK.bounds("from of 300", from -> great.sheet(from, 0, 0) != -1, 0, 200);
        CHECK.bounds("from of 300, width 1", from -> great.sheet(from, 1, 0) != -1, 0, 299);
        PlyHouse empty = house("grade 1 worth 1;", "");
        CHECK.due("of an empty leaf", empty.sheet(0, 0, 0), -1);
    }

    // "or there is no such GRADE"
    private static void noSuchGrade() {
        for (int lines = 1; lines <= 8; lines++) {
            PlyHouse house = house("grade 1 worth 1;".repeat(lines), "..");
            CHECK.bounds("grade", grade -> house.sheet(0, grade, 0) != -1, 0, lines - 1);
        }
        PlyHouse none = house("", "..");
        CHECK.due("no grades", none.sheet(0, 0, 0), -1);
        CHECK.due("no grade -1", none.sheet(0, -1, 0), -1);
    }

    // "without a when: always"
    private static void withoutWhenAlways() {
        String[] leaves = {"...", "kkk", "sss", "ooo", "ppp"};
        for (String leaf : leaves) {
            clips(house("grade 3 worth 4;", leaf), 4, at(0, 0, 0));
            clips(house("grade 1 worth 9 when 1=2;grade 3 worth 4;grade 1 worth 9 when 1=2;", leaf), 4, at(0, 1, 0));
        }
    }

    // "how many knots, splits, holes, plugs there are": none, and all of the widest
    private static void countsOfNoneAndAll() {
        String[] names = {"knots", "splits", "holes", "plugs"};
        for (int kind = 0; kind < 4; kind++) {
            for (int mark = 0; mark < 5; mark++) {
                String leaf = ("" + "ksop.".charAt(mark)).repeat(100);
                holds(names[kind] + "=100", leaf, kind == mark);
                holds(names[kind] + "=0", leaf, kind != mark);
            }
            String rest = "..ks.op".replace("" + "ksop".charAt(kind), "");
            holds(names[kind] + "=0", rest, true);
            holds(names[kind] + "=1", rest + "ksop".charAt(kind), true);
            holds(names[kind] + "=1", "ksop".charAt(kind) + rest, true);
        }
    }

    // "run: the most clear marks one behind the other"
    private static void runIsOfThePartAlone() {
        holds("run=0", "k", true);
        holds("run=1", ".", true);
        holds("run=100", ".".repeat(100), true);
        holds("run=50", ".".repeat(50) + "p" + ".".repeat(49), true);
        holds("run=50", ".".repeat(49) + "p" + ".".repeat(50), true);
        holds("run=1", ".k.s.o.p.", true);
        holds("run=2", "k..s", true);
        PlyHouse house = house("grade 3 worth 1 when run=3;grade 3 worth 1 when run=2;", ".....k....");
        int[] due = {3, 3, 3, 2, 1, 2, 3, 3};
        for (int from = 0; from < due.length; from++) {
            CHECK.due("run of 3 from " + from, house.sheet(from, 0, 0), due[from] == 3 ? 1 : 0);
            CHECK.due("run of 2 from " + from, house.sheet(from, 1, 0), due[from] == 2 ? 1 : 0);
        }
        PlyHouse patched = house("grade 3 worth 1 when run=1;", ".o.");
        patched.patch(1, 0);
        CHECK.due("a plug is not clear", patched.sheet(0, 0, 1), 1);
    }

    // "(< | > | =)": one less, the same, one more
    private static void comparedWithLikeSums() {
        for (int right = 1; right <= 3; right++) {
            holds("knots<" + right, "kk.", 2 < right);
            holds("knots>" + right, "kk.", 2 > right);
            holds("knots=" + right, "kk.", 2 == right);
        }
        holds("0<0", ".", false);
        holds("0>0", ".", false);
        holds("0=0", ".", true);
        holds("0-1<0", ".", true);
        holds("0-1>0", ".", false);
        holds("knots-splits=0-2", "ss", true);
        holds("5-2-1=2", ".", true);
        holds("5-2+1=4", ".", true);
    }

    private static void greatSums() {
        holds("9999" + "+9999".repeat(57) + ">9999", ".", true);
        holds("0" + "-9999".repeat(57) + "<0-9999", ".", true);
        holds("9999" + "+9999".repeat(28) + "=9999" + "+9999".repeat(28) + "+1", ".", false);
        holds("9999" + "+9999".repeat(28) + "=9999" + "+9999".repeat(28), ".", true);
        holds("run+".repeat(58) + "run=5900", ".".repeat(100), true);
    }

    private static void joinedByTheirRank() {
        for (int bits = 0; bits < 8; bits++) {
            boolean x = (bits & 1) != 0;
            boolean y = (bits & 2) != 0;
            boolean z = (bits & 4) != 0;
            String a = x ? "1<2" : "2<1";
            String b = y ? "2=2" : "2=1";
            String c = z ? "2>1" : "1>2";
            holds(a + " or " + b + " and " + c, ".", x || y && z);
            holds(a + " and " + b + " or " + c, ".", x && y || z);
            holds("(" + a + " or " + b + ") and " + c, ".", (x || y) && z);
            holds("not " + a + " and " + b, ".", !x && y);
            holds("not " + a + " or " + b, ".", !x || y);
            holds("not (" + a + " or " + b + ")", ".", !(x || y));
            holds("(((((" + a + " or " + b + " and " + c + ")))))", ".", x || y && z);
            holds("not not not not not " + a, ".", !x);
        }
    }

    // "PATCHES (0 .. 3 ..)", "PATCH (0 .. 100 ..)"
    private static void patchesAndCost() {
        CHECK.bounds("patches", patches -> new PlyHouse().patch(patches, 0), 0, 3);
        CHECK.bounds("patches at 100", patches -> new PlyHouse().patch(patches, 100), 0, 3);
        CHECK.bounds("cost", cost -> new PlyHouse().patch(0, cost), 0, 100);
        CHECK.bounds("cost at 3", cost -> new PlyHouse().patch(3, cost), 0, 100);
        CHECK.due("neither", new PlyHouse().patch(-1, -1), false);
        // "0 at first"
        PlyHouse house = house("grade 1 worth 500 when plugs=1;", "o");
        CHECK.due("no patches at first", house.sheet(0, 0, 1), 0);
        clips(house, 0);
    }

    // "true; false, doing nothing, if one can't be"
    private static void refusedPatchDoesNothing() {
        PlyHouse house = house("grade 3 worth 500 when plugs=2;", "ooo");
        int[][] wrong = {{4, 0}, {-1, 0}, {3, 101}, {3, -1}, {0, 101}, {Integer.MAX_VALUE, 0}, {3, Integer.MIN_VALUE}};
        for (int[] told : wrong) {
            CHECK.due("refused at first", house.patch(told[0], told[1]), false);
            clips(house, 0);
        }
        CHECK.due("two for 30 each", house.patch(2, 30), true);
        for (int[] told : wrong) {
            CHECK.due("refused then", house.patch(told[0], told[1]), false);
            clips(house, 440, at(0, 0, 2));
            CHECK.due("two may be patched", house.sheet(0, 0, 2), 1);
        }
    }

    // "with so many holes PATCHED (0 .. 3)"
    private static void patchedNumbers() {
        PlyHouse house = house("grade 4 worth 1;", "oooo");
        house.patch(3, 1);
        CHECK.bounds("patched", patched -> house.sheet(0, 0, patched) != -1, 0, 3);
        CHECK.bounds("patched that is a sheet", patched -> house.sheet(0, 0, patched) == 1, 0, 3);
    }

    // "0 if not (also if .. PATCHES is less)"
    private static void noMorePatchedThanPatches() {
        for (int patches = 0; patches <= 3; patches++) {
            PlyHouse house = house("grade 4 worth 1;", "oooo");
            house.patch(patches, 1);
            for (int patched = 0; patched <= 3; patched++) {
                CHECK.due(patched + " of " + patches, house.sheet(0, 0, patched), patched <= patches ? 1 : 0);
            }
            String grades = "grade 4 worth 9 when plugs=" + patches + ";grade 4 worth 500 when plugs>" + patches + ";";
            house = house(grades, "oooo");
            house.patch(patches, 1);
            clips(house, 9 - patches, at(0, 0, patches));
        }
    }

    // "0 if not (also if it has not so many ..)"
    private static void noMorePatchedThanHoles() {
        for (int holes = 0; holes <= 4; holes++) {
            PlyHouse house = house("grade 5 worth 1;", "o".repeat(holes) + "k".repeat(5 - holes) + "oo");
            house.patch(3, 1);
            for (int patched = 0; patched <= 3; patched++) {
                CHECK.due(patched + " of " + holes + " holes", house.sheet(0, 0, patched), patched <= holes ? 1 : 0);
            }
        }
        PlyHouse house = house("grade 2 worth 500 when plugs=2;", "ok");
        house.patch(3, 0);
        clips(house, 0);
    }

    // "so many holes less, so many plugs more"
    private static void holesLessPlugsMore() {
        for (int patched = 0; patched <= 3; patched++) {
            String e = "holes=" + (4 - patched) + " and plugs=" + (1 + patched) + " and knots=1 and splits=1 and run=1";
            PlyHouse house = house("grade 8 worth 500 when " + e + ";", "oopko.so");
            house.patch(3, 100);
            for (int other = 0; other <= 3; other++) {
                CHECK.due(other + " patched", house.sheet(0, 0, other), other == patched ? 1 : 0);
            }
            clips(house, 500 - 100 * patched, at(0, 0, patched));
        }
    }

    // "worth its GRADE's worth less what PATCHING cost"
    private static void worthLessWhatPatchingCost() {
        PlyHouse house = house("grade 2 worth 60 when holes=0;", "oo");
        house.patch(2, 29);
        clips(house, 2, at(0, 0, 2));
        house.patch(2, 30);
        clips(house, 0);
        house.patch(2, 31);
        clips(house, 0);
        CHECK.due("a sheet all the same", house.sheet(0, 0, 2), 1);
        house.patch(2, 0);
        clips(house, 60, at(0, 0, 2));
        house.patch(1, 0);
        clips(house, 0);
    }

    // No GRADES, an empty LEAF, no SHEET
    private static void nothingToClip() {
        PlyHouse[] houses = {new PlyHouse(), house("", "..."), house("grade 1 worth 1;", ""),
            house("grade 4 worth 9;", "..."), house("grade 1 worth 9 when knots=1;", "...")};
        for (PlyHouse house : houses) {
            clips(house, 0);
            for (int what = -1; what < 4; what++) {
                CHECK.due("none such", house.clipped(0, what), -1);
            }
        }
    }

    // "SHEETS that do not overlap": one may begin right where another ends
    private static void sheetsDoNotOverlap() {
        clips(house("grade 2 worth 3;", "...."), 6, at(0, 0, 0), at(2, 0, 0));
        clips(house("grade 2 worth 3;", "..."), 3, at(0, 0, 0));
        clips(house("grade 3 worth 9 when knots=1;", "..k.."), 9, at(0, 0, 0));
        clips(house("grade 3 worth 9 when knots=1;", "..k..k"), 18, at(0, 0, 0), at(3, 0, 0));
        clips(house("grade 3 worth 9 when knots=1;", "..k.k"), 9, at(0, 0, 0));
    }

    // "so that they are worth most together"
    private static void worthMostGoesFirst() {
        clips(house("grade 3 worth 5;grade 1 worth 2;", "..."), 6, at(0, 1, 0), at(1, 1, 0), at(2, 1, 0));
        clips(house("grade 3 worth 7;grade 1 worth 2;", "..."), 7, at(0, 0, 0));
        clips(house("grade 2 worth 3;grade 2 worth 5 when splits=1;", "..s"), 5, at(1, 1, 0));
        clips(house("grade 2 worth 3;grade 1 worth 2 when splits=1;", "..s"), 5, at(0, 0, 0), at(2, 1, 0));
    }

    // "of like ways that of fewest SHEETS"
    private static void fewestSheets() {
        clips(house("grade 1 worth 2;grade 3 worth 6;", "..."), 6, at(0, 1, 0));
        clips(house("grade 1 worth 2;grade 2 worth 4;", "..."), 6, at(0, 0, 0), at(1, 1, 0));
        // Fewer go before one that begins sooner.
        clips(house("grade 2 worth 3;grade 3 worth 6 when knots=0;", "k..."), 6, at(1, 1, 0));
    }

    // "that whose first SHEET begins sooner": sooner also if it is of a greater GRADE, or has more PATCHED
    private static void beginsSooner() {
        clips(house("grade 2 worth 4;", "....."), 8, at(0, 0, 0), at(2, 0, 0));
        clips(house("grade 2 worth 4 when knots=0;grade 2 worth 4;", "k.."), 4, at(0, 1, 0));
        PlyHouse house = house("grade 2 worth 4 when holes=0;", "o..");
        house.patch(1, 0);
        clips(house, 4, at(0, 0, 1));
        house.patch(1, 1);
        clips(house, 4, at(1, 0, 0));
    }

    // "then is of the lesser GRADE": lesser also if it has more PATCHED, or is wider
    private static void lesserGrade() {
        clips(house("grade 2 worth 4;".repeat(8), ".."), 4, at(0, 0, 0));
        clips(house("grade 2 worth 4 when splits=0;grade 1 worth 4 when run=1;", ".k"), 4, at(0, 0, 0));
        clips(house("grade 1 worth 4 when run=1;grade 2 worth 4 when splits=0;", ".k"), 4, at(0, 0, 0));
        PlyHouse house = house("grade 2 worth 5 when plugs=1;grade 2 worth 4;", "o.");
        house.patch(1, 1);
        clips(house, 4, at(0, 0, 1));
        house.patch(1, 2);
        clips(house, 4, at(0, 1, 0));
        house.patch(1, 0);
        clips(house, 5, at(0, 0, 1));
    }

    // "then has fewer holes PATCHED"
    private static void fewerPatched() {
        PlyHouse house = house("grade 4 worth 4;", "oooo");
        house.patch(3, 0);
        clips(house, 4, at(0, 0, 0));
        house = house("grade 4 worth 4 when plugs>1;", "oooo");
        house.patch(3, 0);
        clips(house, 4, at(0, 0, 2));
        house = house("grade 4 worth 4 when plugs=3 or plugs=1;", "oooo");
        house.patch(3, 0);
        clips(house, 4, at(0, 0, 1));
    }

    // "then so by the next one"
    private static void thenByTheNextOne() {
        clips(house("grade 2 worth 4;grade 3 worth 4;", "......"), 12, at(0, 0, 0), at(2, 0, 0), at(4, 0, 0));
        clips(house("grade 3 worth 4;grade 2 worth 4;", "....."), 8, at(0, 0, 0), at(3, 1, 0));
        clips(house("grade 3 worth 4;grade 2 worth 4;", "......"), 12, at(0, 1, 0), at(2, 1, 0), at(4, 1, 0));
        clips(house("grade 2 worth 4 when knots=1;", "k...k."), 8, at(0, 0, 0), at(3, 0, 0));
        PlyHouse house = house("grade 2 worth 8 when knots=1;grade 1 worth 3 when holes=0;grade 1 worth 3;", "k.o");
        house.patch(1, 0);
        clips(house, 11, at(0, 0, 0), at(2, 1, 1));
    }

    private static void fullOfSheets() {
        PlyHouse house = house("grade 1 worth 9999;", "k".repeat(300));
        CHECK.due("the most sheets", house.sheets(), 300);
        CHECK.due("the most worth", house.worth(), 2999700);
        CHECK.due("the last", house.clipped(299, 0), 299);
        CHECK.due("beyond", house.clipped(300, 0), -1);
        clips(house("grade 100 worth 9999;", "k".repeat(300)), 29997, at(0, 0, 0), at(100, 0, 0), at(200, 0, 0));
        clips(house("grade 100 worth 9999;", "k".repeat(299)), 19998, at(0, 0, 0), at(100, 0, 0));
        clips(house("grade 1 worth 1 when holes=1;", ".".repeat(299) + "o"), 1, at(299, 0, 0));
        String eight = "grade 1 worth 1 when 1=2;".repeat(7) + "grade 1 worth 2;";
        clips(house(eight, "."), 2, at(0, 7, 0));
    }

    // "Of its k-th SHEET .. NONE if there is none such"
    private static void kthSheet() {
        PlyHouse house = house("grade 2 worth 5 when plugs=1;", "okpk.o");
        house.patch(1, 1);
        CHECK.due("the first call of all", house.clipped(1, 0), 2);
        CHECK.bounds("k", k -> house.clipped(k, 0) != -1, 0, 2);
        CHECK.bounds("what of clipped", what -> house.clipped(2, what) != -1, 0, 2);
        clips(house, 13, at(0, 0, 1), at(2, 0, 0), at(4, 0, 1));
        CHECK.due("the first call of all: sheets", house("grade 2 worth 5;", "..").sheets(), 1);
        CHECK.due("the first call of all: worth", house("grade 2 worth 5;", "..").worth(), 5);
    }

    private static void clippedAnew() {
        PlyHouse house = house("grade 2 worth 5 when plugs=1;", "op");
        CHECK.due("at first", house.clipped(0, 2), 0);
        house.patch(1, 0);
        Check.leaf(house, "oo");
        CHECK.due("another leaf", house.clipped(0, 2), 1);
        house.patch(0, 0);
        CHECK.due("no patches", house.clipped(0, 2), -1);
        Check.grades(house, "grade 1 worth 1;grade 1 worth 6;");
        CHECK.due("other grades", house.clipped(1, 1), 1);
        Check.leaf(house, "k".repeat(300));
        CHECK.due("a long leaf", house.sheets(), 300);
        Check.leaf(house, "k");
        CHECK.due("a short one", house.sheets(), 1);
        CHECK.due("nothing of the long one", house.clipped(1, 0), -1);
        house.leaf();
        CHECK.due("an empty one", house.worth(), 0);
    }
}
