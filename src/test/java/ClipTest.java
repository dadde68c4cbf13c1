import java.util.ArrayList;
import java.util.List;
import java.util.Random;

/** Promises 7 and 10 to 14: what grades ask for, patch, sheet, worth, sheets, clipped. */
public final class ClipTest {
    private static final Check CHECK = new Check();

    public static void main(String[] args) {
        patching();
        sheetEdges();
        conditions();
        waysOfLikeWorth();
        patchesThatPay();
        greatLeaf();
        againstModel();
        CHECK.finish("ClipTest");
    }

    private static PlyHouse house(String grades, String leaf) {
        PlyHouse house = new PlyHouse();
        CHECK.due("grades " + grades, Check.grades(house, grades) >= 0, true);
        CHECK.due("leaf " + leaf, Check.leaf(house, leaf), leaf.length());
        return house;
    }

    private static void patching() {
        PlyHouse house = house("grade 1 worth 9 when plugs=1;", "o");
        int[][] wrong = {{-1, 0}, {4, 0}, {0, -1}, {0, 101}, {Integer.MIN_VALUE, 0}, {3, Integer.MAX_VALUE}};
        CHECK.due("no patches at first", house.worth(), 0);
        CHECK.due("sheet of 1 patched", house.sheet(0, 0, 1), 0);
        CHECK.due("patch", house.patch(1, 4), true);
        for (int[] told : wrong) {
            CHECK.due("wrong patch", house.patch(told[0], told[1]), false);
        }
        CHECK.due("nothing done", house.worth(), 5);
        CHECK.due("sheet of 1 patched then", house.sheet(0, 0, 1), 1);
        CHECK.due("edges", house.patch(3, 100), true);
        CHECK.due("does not pay", house.worth(), 0);
        CHECK.due("no sheets", house.sheets(), 0);
        CHECK.due("a sheet all the same", house.sheet(0, 0, 1), 1);
        CHECK.due("has no two holes", house.sheet(0, 0, 2), 0);
        CHECK.due("for nothing", house.patch(3, 0), true);
        CHECK.due("worth all", house.worth(), 9);
        CHECK.due("none any more", house.patch(0, 0), true);
        CHECK.due("worth none", house.worth(), 0);
    }

    private static void sheetEdges() {
        PlyHouse house = house("grade 3 worth 1;grade 5 worth 1;", "o....");
        CHECK.due("from 2", house.sheet(2, 0, 0), 1);
        CHECK.due("from 3", house.sheet(3, 0, 0), -1);
        CHECK.due("from -1", house.sheet(-1, 0, 0), -1);
        CHECK.due("from greatest", house.sheet(Integer.MAX_VALUE, 0, 0), -1);
        CHECK.due("from least", house.sheet(Integer.MIN_VALUE, 0, 0), -1);
        CHECK.due("all", house.sheet(0, 1, 0), 1);
        CHECK.due("more than all", house.sheet(1, 1, 0), -1);
        CHECK.due("grade 2", house.sheet(0, 2, 0), -1);
        CHECK.due("grade -1", house.sheet(0, -1, 0), -1);
        CHECK.due("patched -1", house.sheet(0, 0, -1), -1);
        CHECK.due("patched 4", house.sheet(0, 0, 4), -1);
        CHECK.due("patched 3", house.sheet(0, 0, 3), 0);
        CHECK.due("patched 1 of no patches", house.sheet(0, 0, 1), 0);
        house.patch(3, 1);
        CHECK.due("patched 1", house.sheet(0, 0, 1), 1);
        CHECK.due("patched 2", house.sheet(0, 0, 2), 0);
        CHECK.due("patched 1 without a hole", house.sheet(1, 0, 1), 0);
        CHECK.due("clipped -1", house.clipped(-1, 0), -1);
        CHECK.due("clipped 1", house.clipped(1, 0), -1);
        CHECK.due("clipped what -1", house.clipped(0, -1), -1);
        CHECK.due("clipped what 3", house.clipped(0, 3), -1);
        CHECK.due("clipped 0", house.clipped(0, 0), 0);
    }

    private static void condition(String e, String leaf, boolean holds) {
        PlyHouse house = house("grade " + leaf.length() + " worth 1 when " + e + ";", leaf);
        CHECK.due(e + " of " + leaf, house.sheet(0, 0, 0), holds ? 1 : 0);
    }

    private static void conditions() {
        condition("knots=2", "k.k", true);
        condition("splits=1", "k.s", true);
        condition("holes=1", "o.s", true);
        condition("plugs=3", "ppp", true);
        condition("run=3", "..k...s.", true);
        condition("run=0", "kspo", true);
        condition("run=4", "....", true);
        condition("1=2 and 1=2 or 1=1", ".", true);
        condition("1=1 or 1=2 and 1=2", ".", true);
        condition("(1=1 or 1=2)and 1=2", ".", false);
        condition("not 1=2 and 1=2", ".", false);
        condition("not(1=2 and 1=2)", ".", true);
        condition("not not 1=1", ".", true);
        condition("not 1=1 or 1=1", ".", true);
        condition("5-3-1=1", ".", true);
        condition("5-3+1=3", ".", true);
        condition("1-3<0", ".", true);
        condition("0-9999<0-9998", ".", true);
        condition("2<2", ".", false);
        condition("2>2", ".", false);
        condition("2>1", ".", true);
        condition("knots+splits>holes+plugs", "kso", true);
        condition("0100=100", ".", true);
        String nots = "not not not not not ";
        condition((nots + "1=1 or ").repeat(19) + nots + "1=2", ".", true);
        condition((nots + "1=1 or ").repeat(19) + nots + "1=1", ".", false);
    }

    private static void clips(PlyHouse house, int worth, int[][] sheets) {
        CHECK.due("worth", house.worth(), worth);
        CHECK.due("sheets", house.sheets(), sheets.length);
        for (int k = 0; k < sheets.length; k++) {
            for (int what = 0; what < 3; what++) {
                CHECK.due("sheet " + k + " what " + what, house.clipped(k, what), sheets[k][what]);
            }
        }
        CHECK.due("none behind", house.clipped(sheets.length, 0), -1);
    }

    private static void waysOfLikeWorth() {
        clips(house("grade 1 worth 1;grade 2 worth 2;", "...."), 4, new int[][] {{0, 1, 0}, {2, 1, 0}});
        clips(house("grade 2 worth 2;grade 1 worth 2;", "..."), 6, new int[][] {{0, 1, 0}, {1, 1, 0}, {2, 1, 0}});
        clips(house("grade 2 worth 2;", "..."), 2, new int[][] {{0, 0, 0}});
        clips(house("grade 2 worth 2;grade 3 worth 2;", "...."), 4, new int[][] {{0, 0, 0}, {2, 0, 0}});
        clips(house("grade 3 worth 2;grade 2 worth 2;", "....."), 4, new int[][] {{0, 0, 0}, {3, 1, 0}});
        clips(house("grade 1 worth 5;grade 1 worth 5;", "."), 5, new int[][] {{0, 0, 0}});
        clips(house("grade 1 worth 5;grade 1 worth 6;", "."), 6, new int[][] {{0, 1, 0}});
    }

    private static void patchesThatPay() {
        PlyHouse house = house("grade 3 worth 10 when holes<2;grade 3 worth 8;", "ooo");
        clips(house, 8, new int[][] {{0, 1, 0}});
        house.patch(2, 1);
        clips(house, 8, new int[][] {{0, 0, 2}});
        house.patch(1, 1);
        clips(house, 8, new int[][] {{0, 1, 0}});
        house.patch(3, 0);
        clips(house, 10, new int[][] {{0, 0, 2}});
        house.patch(3, 2);
        clips(house, 8, new int[][] {{0, 1, 0}});
        house = house("grade 1 worth 5;", "o");
        house.patch(3, 0);
        clips(house, 5, new int[][] {{0, 0, 0}});
        house = house("grade 2 worth 5 when plugs=2;", "po");
        house.patch(1, 5);
        clips(house, 0, new int[0][]);
        house.patch(1, 4);
        clips(house, 1, new int[][] {{0, 0, 1}});
    }

    private static void greatLeaf() {
        PlyHouse house = house("grade 1 worth 9999;grade 100 worth 9999;", "k".repeat(300));
        CHECK.due("worth", house.worth(), 300 * 9999);
        CHECK.due("sheets", house.sheets(), 300);
        CHECK.due("last", house.clipped(299, 0), 299);
        CHECK.due("beyond", house.clipped(300, 0), -1);
        Check.leaf(house, "..");
        CHECK.due("a lesser one then", house.worth(), 2 * 9999);
        house = house("grade 100 worth 3 when run=100;grade 100 worth 2;", ".".repeat(150) + "k" + ".".repeat(149));
        clips(house, 8, new int[][] {{0, 0, 0}, {100, 1, 0}, {200, 0, 0}});
        Check.leaf(house, ".".repeat(300));
        clips(house, 9, new int[][] {{0, 0, 0}, {100, 0, 0}, {200, 0, 0}});
    }

    /** A way to clip: its sheets, each {begin, grade, patched}. */
    private static final class Way {
        final List<int[]> sheets = new ArrayList<>();
        int worth;
    }

    private static void againstModel() {
        Random random = new Random(6);
        for (int run = 0; run < 2500; run++) {
            String text = GradeText.random(random, 1 + random.nextInt(4), random.nextInt(5));
            if (text.length() > 600 || GradeText.faultOf(text)[0] != 0) {
                continue;
            }
            PlyHouse house = new PlyHouse();
            Check.grades(house, text);
            GradeModel model = new GradeModel(text);
            for (int times = 0; times < 2; times++) {
                StringBuilder leaf = new StringBuilder();
                int length = random.nextInt(9);
                String marks = random.nextBoolean() ? "...kosop" : ".o";
                for (int at = 0; at < length; at++) {
                    leaf.append(marks.charAt(random.nextInt(marks.length())));
                }
                Check.leaf(house, leaf.toString());
                int patches = random.nextInt(4);
                int cost = random.nextInt(3);
                house.patch(patches, cost);
                compareSheets(house, model, leaf.toString(), patches);
                Way[] kept = new Way[1];
                goOn(new Way(), 0, kept, model, leaf.toString(), new int[] {patches, cost});
                clips(house, kept[0].worth, kept[0].sheets.toArray(new int[0][]));
            }
        }
    }

    private static void compareSheets(PlyHouse house, GradeModel model, String leaf, int patches) {
        for (int from = 0; from <= leaf.length(); from++) {
            for (int line = 0; line < model.widths.size(); line++) {
                for (int patched = 0; patched < 4; patched++) {
                    boolean fits = from + model.widths.get(line) <= leaf.length();
                    int due = fits ? model.isSheet(leaf, from, line, patched, patches) ? 1 : 0 : -1;
                    CHECK.due("sheet of " + leaf, house.sheet(from, line, patched), due);
                }
            }
        }
    }

    /** Goes through all ways there are. */
    private static void goOn(Way way, int from, Way[] kept, GradeModel model, String leaf, int[] patching) {
        if (kept[0] == null || isBetter(way, kept[0])) {
            kept[0] = way;
        }
        for (int begin = from; begin < leaf.length(); begin++) {
            for (int line = 0; line < model.widths.size(); line++) {
                int behind = begin + model.widths.get(line);
                for (int patched = 0; patched < 4 && behind <= leaf.length(); patched++) {
                    if (!model.isSheet(leaf, begin, line, patched, patching[0])) {
                        continue;
                    }
                    Way next = new Way();
                    next.sheets.addAll(way.sheets);
                    next.sheets.add(new int[] {begin, line, patched});
                    next.worth = way.worth + model.worths.get(line) - patched * patching[1];
                    goOn(next, behind, kept, model, leaf, patching);
                }
            }
        }
    }

    private static boolean isBetter(Way a, Way b) {
        if (a.worth != b.worth) {
            return a.worth > b.worth;
        }
        if (a.sheets.size() != b.sheets.size()) {
            return a.sheets.size() < b.sheets.size();
        }
        for (int k = 0; k < a.sheets.size(); k++) {
            int order = java.util.Arrays.compare(a.sheets.get(k), b.sheets.get(k));
            if (order != 0) {
                return order < 0;
            }
        }
        return false;
    }
}
