import java.util.Random;

/** Promises 7 and 8: grades and its faults. */
public final class GradesTest {
    private static final Check CHECK = new Check();

    public static void main(String[] args) {
        goodTexts();
        brokenTokens();
        tokensOutOfPlace();
        numbersThatCantBe();
        limits();
        depths();
        firstByPlace();
        oldOnesStay();
        againstModel();
        CHECK.finish("GradesTest");
    }

    private static void good(String text, int lines) {
        CHECK.goodGrades(text, lines);
    }

    private static void bad(String text, int fault, int place) {
        CHECK.badGrades(text, fault, place);
    }

    private static void goodTexts() {
        good("", 0);
        good(" \n ", 0);
        good("grade 1 worth 1;", 1);
        good("grade100 worth9999;", 1);
        good("grade 0100 worth 0001;", 1);
        good("\ngrade\n5\nworth\n7\nwhen\nknots<1\n;\n", 1);
        good("grade5 worth5 when1<2;grade5 worth5 when knots+1-splits>run;", 2);
        good("grade 5 worth 5 when(1<2);grade 5 worth 5 when not(1<2)and not(holes=plugs)or run>0;", 2);
        good("grade 5 worth 5 when 0=9999 or not 1=1 and(1=1 or 2=2);", 1);
        good("grade 5 worth 5 when not1=1;", 1);
    }

    private static void brokenTokens() {
        bad("$", 1, 0);
        bad("grade\t5", 1, 5);
        bad("grade\r5", 1, 5);
        bad("Grade 5", 1, 0);
        bad("grade 5 worth 5" + (char) 0, 1, 15);
        bad("grade 5 worth 5" + (char) 255, 1, 15);
        bad("gradegrade 5", 1, 0);
        bad("grade 5worth", 1, 6);
        bad("grade 00005", 1, 6);
        bad("grade 12345a", 1, 6);
        bad("grade 5 worth 5 when 1a", 1, 21);
        bad("grade 5 worth 5 when 1<=2;", 2, 23);
        bad("grade 5 worth 5; $", 1, 17);
        bad("grade 5 worth 5 when knots=1 &", 1, 29);
    }

    private static void tokensOutOfPlace() {
        bad("grade", 2, 5);
        bad("grade ", 2, 6);
        bad("worth", 2, 0);
        bad(";", 2, 0);
        bad("5", 2, 0);
        bad("grade grade", 2, 6);
        bad("grade -5", 2, 6);
        bad("grade 5 5", 2, 8);
        bad("grade 5 worth", 2, 13);
        bad("grade 5 worth when", 2, 14);
        bad("grade 5 worth 5", 2, 15);
        bad("grade 5 worth 5 grade 5", 2, 16);
        bad("grade 5 worth 5 1=1;", 2, 16);
        bad("grade 5 worth 5;;", 2, 16);
        bad("grade 5 worth 5 when", 2, 20);
        bad("grade 5 worth 5 when )", 2, 21);
        bad("grade 5 worth 5 when or 1=1;", 2, 21);
        bad("grade 5 worth 5 when -1=1;", 2, 21);
        bad("grade 5 worth 5 when 1=1 or;", 2, 27);
        bad("grade 5 worth 5 when 1=1 and or 1=1;", 2, 29);
        bad("grade 5 worth 5 when 1=1);", 2, 24);
        bad("grade 5 worth 5 when (1=1;", 2, 25);
        bad("grade 5 worth 5 when (1)=1;", 2, 23);
        bad("grade 5 worth 5 when (1=1)=1;", 2, 26);
        bad("grade 5 worth 5 when ();", 2, 22);
        bad("grade 5 worth 5 when not;", 2, 24);
        bad("grade 5 worth 5 when 1 not=1;", 2, 23);
        bad("grade 5 worth 5 when 1+=1;", 2, 23);
        bad("grade 5 worth 5 when 1++1=1;", 2, 23);
        bad("grade 5 worth 5 when 1+(1)=1;", 2, 23);
        bad("grade 5 worth 5 when 1=1=1;", 2, 24);
        bad("grade 5 worth 5 when 1=1 1;", 2, 25);
        bad("grade 5 worth 5 when 1=1 not 1=1;", 2, 25);
        bad("grade 5 worth 5 when notknots=1;", 2, 21);
        bad("grade 5 worth 5 when knot=1;", 2, 21);
        bad("grades 5", 2, 0);
        bad("grad 5", 2, 0);
        bad("grade 5 worth 5 when worth=1;", 2, 21);
    }

    private static void numbersThatCantBe() {
        bad("grade 0", 3, 6);
        bad("grade 101", 3, 6);
        bad("grade 9999 worth 5;", 3, 6);
        bad("grade 1 worth 0;", 3, 14);
        bad("grade 1 worth 0000;", 3, 14);
        bad("grade 1 worth 1;grade 0 worth 1;", 3, 22);
    }

    private static void limits() {
        String line = "grade 1 worth 1;";
        good(line.repeat(8), 8);
        bad(line.repeat(9), 2, 128);
        bad(line.repeat(8) + " grade", 2, 129);
        bad(line.repeat(8) + "$", 1, 128);
        bad(line.repeat(8) + "grade 0", 2, 128);
        String head = "grade 1 worth 1 when ";
        good(head + "1+".repeat(58) + "1=1;", 1);
        bad(head + "1+".repeat(59) + "1=1;", 2, 21 + 120);
        bad(head + "1=" + "1+".repeat(60) + "1;", 2, 21 + 120);
        bad(head + "1=" + "1+".repeat(59) + "$", 1, 21 + 120);
        String thirty = head + "1=" + "1-".repeat(28) + "1;";
        good(thirty + thirty, 2);
        bad(thirty + thirty + head + "1=1;", 2, 2 * thirty.length() + 21);
        good(thirty + thirty + line, 3);
        String full = head + "1=1" + " ".repeat(600 - 25) + ";";
        good(full, 1);
        bad("grade 1 worth 1" + " ".repeat(585), 2, 600);
    }

    private static void depths() {
        String head = "grade 1 worth 1 when ";
        good(head + "not ".repeat(5) + "1=1;", 1);
        bad(head + "not ".repeat(6) + "1=1;", 2, 45);
        good(head + "(".repeat(5) + "1=1" + ")".repeat(5) + ";", 1);
        bad(head + "(".repeat(6) + "1=1" + ")".repeat(6) + ";", 2, 27);
        bad(head + "(".repeat(7) + "1=1" + ")".repeat(7) + ";", 2, 27);
        bad(head + "(".repeat(6) + "$", 1, 27);
        bad(head + "(".repeat(6), 2, 27);
        good(head + "not(not(not 1=1 and 1=1)or not 1=1);", 1);
        bad(head + "not(not(not(1=1 and 1=1)or not 1=1));", 2, 21 + 12);
        good(head + "((((not 1=1))))and((((not 1=1 or 2=2))));", 1);
        bad(head + "1=1 and(((((1=1 or not 2=2)))));", 2, 21 + 23);
        bad(head + "1=1 and(((((1=1 or(2=2))))));", 2, 21 + 19);
    }

    private static void firstByPlace() {
        bad("grade 0 $", 3, 6);
        bad("grade 5 5 $", 2, 8);
        bad("grade $ 0", 1, 6);
        bad("grade 0x", 1, 6);
        bad("grade 5 worth 0 worth", 3, 14);
    }

    private static void oldOnesStay() {
        PlyHouse house = new PlyHouse();
        Check.leaf(house, "..k..");
        CHECK.due("two", Check.grades(house, "grade 2 worth 3 when knots=0;grade 1 worth 1;"), 2);
        CHECK.due("worth", house.worth(), 7);
        CHECK.due("bad", Check.grades(house, "grade 5 worth 9999;grade 1 worth 7 when 1=2 3"), -1);
        CHECK.due("two stay", house.about(0), 2);
        CHECK.due("worth stays", house.worth(), 7);
        CHECK.due("sheet stays", house.sheet(1, 0, 0), 0);
        CHECK.due("none", Check.grades(house, ""), 0);
        CHECK.due("no lines", house.about(0), 0);
        CHECK.due("no worth", house.worth(), 0);
        CHECK.due("no grade", house.sheet(0, 0, 0), -1);
    }

    private static void againstModel() {
        Random random = new Random(5);
        String[] words = {"grade", "worth", "when", "or", "and", "not", "knots", "splits", "holes", "plugs", "run", ";",
            "(", ")", "<", ">", "=", "+", "-", "1", "0", "100", "101", "9999", "10000", "knot", "gradegrade", "$",
            "2x"};
        for (int run = 0; run < 60000; run++) {
            String text = GradeText.random(random, 1 + random.nextInt(3), random.nextInt(7));
            int changes = random.nextInt(4);
            for (int change = 0; change < changes && text.length() > 0; change++) {
                int at = random.nextInt(text.length() + 1);
                int cut = Math.min(text.length(), at + random.nextInt(4));
                String word = random.nextInt(3) == 0 ? "" : words[random.nextInt(words.length)];
                String blank = random.nextInt(2) == 0 ? " " : "";
                text = text.substring(0, at) + blank + word + blank + text.substring(cut);
            }
            if (text.length() > 600) {
                text = text.substring(0, 600);
            }
            int[] found = GradeText.faultOf(text);
            if (found[0] == 0) {
                good(text, found[1]);
            } else {
                bad(text, found[0], found[1]);
            }
        }
    }
}
