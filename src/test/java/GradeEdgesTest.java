/** The boundary cases of a text of grades (part 2 of the terms, promises 7 and 8), a method for each sentence. */
public final class GradeEdgesTest {
    private static final Check CHECK = new Check();
    private static final String LINE = "grade 1 worth 1;";
    private static final String HEAD = "grade 1 worth 1 when ";
    private static final int BODY = HEAD.length();

    public static void main(String[] args) {
        noneAtFirst();
        sixHundredBytes();
        noLines();
        wordsOfEightLetters();
        wordsByEveryLetter();
        numbersOfFourDigits();
        everyByte();
        blanksPartOrNot();
        asLongAsCanBe();
        letterBehindNumber();
        eightLines();
        sixtyTerms();
        widths();
        worths();
        numbersInSums();
        withinSixNots();
        withinSixBrackets();
        withinSixOfBoth();
        withinIsLeft();
        firstByItsPlace();
        leastAtOnePlace();
        atTheEnd();
        cutBytesAreNoText();
        everyPlaceOfTheGrammar();
        gradesThatThereAreStay();
        gradesManyTimes();
        CHECK.finish("GradeEdgesTest");
    }

    private static void good(String text, int lines) {
        CHECK.goodGrades(text, lines);
    }

    private static void bad(String text, int fault, int place) {
        CHECK.badGrades(text, fault, place);
    }

    /** An e that may stand behind when. */
    private static void goodWhen(String e) {
        good(HEAD + e + ";", 1);
    }

    /** An e with a fault, and its place in the e. */
    private static void badWhen(String e, int fault, int place) {
        bad(HEAD + e + ";", fault, BODY + place);
    }

    // "GRADES are a text .. (none at first)"
    private static void noneAtFirst() {
        PlyHouse house = new PlyHouse();
        Check.leaf(house, "....");
        CHECK.due("lines at first", house.about(0), 0);
        CHECK.due("no grade at first", house.sheet(0, 0, 0), -1);
        CHECK.due("worth at first", house.worth(), 0);
        CHECK.due("sheets at first", house.sheets(), 0);
    }

    // "a text of at most 600 bytes"
    private static void sixHundredBytes() {
        good(LINE + " ".repeat(584), 1);
        good(" ".repeat(584) + LINE, 1);
        good(" ".repeat(600), 0);
        good(HEAD + "1=1" + "\n".repeat(575) + ";", 1);
        good("grade 1" + " ".repeat(584) + "worth 1\n;", 1);
        bad(LINE + " ".repeat(583) + "$", 1, 599);
        bad(LINE + " ".repeat(583) + ";", 2, 599);
        bad("grade 1 worth 1" + " ".repeat(585), 2, 600);
        bad(" ".repeat(593) + "grade 0", 3, 599);
    }

    // "grades = {line}": no line is enough
    private static void noLines() {
        good("", 0);
        good(" ", 0);
        good("\n", 0);
        bad(";", 2, 0);
    }

    // "words (a .. z, 8 at most)"
    private static void wordsOfEightLetters() {
        bad("abcdefgh", 2, 0);
        bad("abcdefghi", 1, 0);
        bad("zzzzzzzz 1", 2, 0);
        bad("zzzzzzzzz 1", 1, 0);
        bad("z", 2, 0);
        badWhen("knots=plugplug", 2, 6);
        badWhen("knots=plugplugs", 1, 6);
        bad(" ".repeat(591) + "abcdefghi", 1, 591);
        bad("a".repeat(600), 1, 0);
    }

    // Another word than those of the grammar, by any one letter, can't stand where they do.
    private static void wordsByEveryLetter() {
        String whole = HEAD + "not knots=1 and splits=1 or holes=1 and plugs=run;";
        good(whole, 1);
        for (int at = 0; at < whole.length(); at++) {
            if (!Character.isLetter(whole.charAt(at))) {
                continue;
            }
            int first = at;
            while (first > 0 && Character.isLetter(whole.charAt(first - 1))) {
                first--;
            }
            String before = whole.substring(0, at);
            bad(before + "x" + whole.substring(at + 1), 2, first);
            bad(before + whole.charAt(at) + whole.substring(at), 2, first);
            bad(before + whole.substring(at + 1), 2, first);
        }
    }

    // "N (1 to 4 digits)"
    private static void numbersOfFourDigits() {
        good("grade 1 worth 1;", 1);
        good("grade 01 worth 01;", 1);
        good("grade 001 worth 001;", 1);
        good("grade 0001 worth 0001;", 1);
        bad("grade 00001 worth 1;", 1, 6);
        bad("grade 1 worth 00001;", 1, 14);
        goodWhen("0000=9999");
        badWhen("00000=9999", 1, 0);
        badWhen("0=99999", 1, 2);
        badWhen("0=10000", 1, 2);
        bad("9".repeat(600), 1, 0);
        bad("9999", 2, 0);
    }

    // "signs ; ( ) < > = + -; blanks (32, 10)": what each of the 256 bytes is where none but a ; or a when may stand
    private static void everyByte() {
        for (int sign = 0; sign < 256; sign++) {
            String text = "grade 5 worth 5 " + (char) sign;
            if (sign == ' ' || sign == '\n') {
                bad(text, 2, 17);
            } else if (sign == ';') {
                good(text, 1);
            } else if (sign >= 'a' && sign <= 'z' || sign >= '0' && sign <= '9' || "()<>=+-".indexOf(sign) >= 0) {
                bad(text, 2, 16);
            } else {
                bad(text, 1, 16);
            }
        }
    }

    // "blanks .. part them or not"
    private static void blanksPartOrNot() {
        good("grade1 worth1;", 1);
        good("grade1 worth1 when(1<2)and(2>run or(1=1))or not(knots+1-1=splits);", 1);
        good(" grade\n1 \n worth\n\n1  when 1 < 2 and ( 2 > 1 or 1 = 1 ) \n;\n", 1);
        good(LINE + LINE, 2);
        good(LINE + "\n" + LINE, 2);
    }

    // "each is as long as can be"
    private static void asLongAsCanBe() {
        bad("gradeworth", 1, 0);
        bad("gradegra 1", 2, 0);
        badWhen("notknots=1", 2, 0);
        badWhen("knots=1 andnot 1=1", 2, 8);
        badWhen("1 2=3", 2, 2);
        badWhen("knots splits=3", 2, 6);
        badWhen("1=1 o r 1=1", 2, 4);
        good("grade 10 worth 1;", 1);
        bad("grade 1 0 worth 1;", 2, 8);
        bad("gra de 1 worth 1;", 2, 0);
    }

    // "no letter directly behind an N"
    private static void letterBehindNumber() {
        for (int sign = 33; sign < 256; sign++) {
            boolean letter = sign >= 'a' && sign <= 'z';
            boolean token = letter || sign >= '0' && sign <= '9' || ";()<>=+-".indexOf(sign) >= 0;
            if (letter) {
                bad("grade 7" + (char) sign, 1, 6);
                bad("grade 7 " + (char) sign, 2, 8);
                badWhen("1234" + (char) sign, 1, 0);
            } else if (!token) {
                bad("grade 7" + (char) sign, 1, 7);
            }
        }
        bad("grade 7worth 1;", 1, 6);
        bad("grade 7 worth 1when 1=1;", 1, 14);
        badWhen("1=1and 1=1", 1, 2);
        badWhen("1=1or 1=1", 1, 2);
        badWhen("12345a", 1, 0);
        goodWhen("1=1\nand 1=1");
        bad("7" + "a".repeat(9), 1, 0);
    }

    // "At most 8 lines"; "a 9th line: at its grade"
    private static void eightLines() {
        for (int lines = 1; lines <= 8; lines++) {
            good(LINE.repeat(lines), lines);
            good((LINE + "\n").repeat(lines), lines);
        }
        bad(LINE.repeat(9), 2, 128);
        bad(LINE.repeat(20), 2, 128);
        bad(LINE.repeat(8) + " \n grade 1 worth 1;", 2, 131);
        bad(LINE.repeat(8) + "grade", 2, 128);
        bad(LINE.repeat(8) + "grade 0", 2, 128);
        bad(LINE.repeat(7) + "grade 1 worth 0;" + LINE, 3, 7 * 16 + 14);
        bad(LINE.repeat(8) + ";", 2, 128);
        bad(LINE.repeat(8) + "gradegrade", 1, 128);
        good(LINE.repeat(7) + HEAD + "1=1;", 8);
        bad(LINE.repeat(7) + HEAD + "1=;", 2, 7 * 16 + BODY + 2);
    }

    // "60 terms"; "a 61st term at it"
    private static void sixtyTerms() {
        goodWhen("1+".repeat(58) + "1=1");
        goodWhen("1=1" + "-1".repeat(58));
        badWhen("1+".repeat(59) + "1=1", 2, 2 * 60);
        badWhen("1+".repeat(60) + "1=1", 2, 2 * 60);
        badWhen("1=1" + "-1".repeat(59), 2, 2 * 60);
        badWhen("1=1" + "- 1".repeat(59), 2, 3 + 3 * 58 + 2);
        goodWhen("1=1 or ".repeat(29) + "1=1");
        badWhen("1=1 or ".repeat(30) + "1=1", 2, 7 * 30);
        badWhen("1=1 or ".repeat(29) + "1=1+1", 2, 7 * 29 + 4);
        badWhen("1=1 or ".repeat(30) + "(1=1)", 2, 7 * 30 + 1);
        badWhen("1=1 or ".repeat(30) + "not run=1", 2, 7 * 30 + 4);
        String[] terms = {"knots", "splits", "holes", "plugs", "run", "0"};
        for (String term : terms) {
            badWhen("1+".repeat(59) + term + "=" + term, 2, 2 * 59 + term.length() + 1);
            goodWhen("1+".repeat(57) + term + "+" + term + "=" + term);
        }
        String twenty = HEAD + "1=1" + "+1".repeat(18) + ";";
        good(twenty.repeat(3), 3);
        good(twenty.repeat(3) + LINE.repeat(5), 8);
        bad(twenty.repeat(3) + HEAD + "1=1;", 2, 3 * twenty.length() + BODY);
        bad(twenty.repeat(2) + HEAD + "1=1" + "+1".repeat(19) + ";", 2, 2 * twenty.length() + BODY + 40);
    }

    // "grade's N (its width) 1 .. 100"
    private static void widths() {
        for (int width = 1; width <= 100; width++) {
            good("grade " + width + " worth 1;", 1);
        }
        int[] wrong = {0, 101, 102, 110, 1000, 9999};
        for (int width : wrong) {
            bad("grade " + width + " worth 1;", 3, 6);
            bad(LINE + "grade " + width, 3, 22);
        }
        bad("grade 0000 worth 1;", 3, 6);
        bad("grade 0101 worth 1;", 3, 6);
        good("grade 0100 worth 1;", 1);
        bad("grade - 1 worth 1;", 2, 6);
    }

    // "worth's N 1 .. 9999"
    private static void worths() {
        int[] right = {1, 2, 100, 101, 9998, 9999};
        for (int worth : right) {
            PlyHouse house = new PlyHouse();
            CHECK.due("worth " + worth, Check.grades(house, "grade 1 worth " + worth + ";"), 1);
            Check.leaf(house, ".");
            CHECK.due("it is worth so much", house.worth(), worth);
        }
        bad("grade 1 worth 0;", 3, 14);
        bad("grade 1 worth 00;", 3, 14);
        bad("grade 1 worth 0000", 3, 14);
        bad("grade 1 worth 10000;", 1, 14);
        bad("grade 1 worth -1;", 2, 14);
    }

    // The bounds of a width and a worth are not those of a term.
    private static void numbersInSums() {
        goodWhen("0=0");
        goodWhen("101<9999");
        goodWhen("0000>0000-9999");
    }

    // "an e or a one within 6 others (.. behind not)"; "what is within 6 others: at its first TOKEN"
    private static void withinSixNots() {
        for (int nots = 0; nots <= 5; nots++) {
            goodWhen("not ".repeat(nots) + "1=1");
            goodWhen("1=1 and " + "not ".repeat(nots) + "1=1 or " + "not\n".repeat(nots) + "1=1");
        }
        badWhen("not ".repeat(6) + "1=1", 2, 24);
        badWhen("not ".repeat(6) + "\n 1=1", 2, 26);
        badWhen("not ".repeat(7) + "1=1", 2, 24);
        badWhen("not ".repeat(6) + "(1=1)", 2, 24);
        badWhen("1=1 or " + "not ".repeat(6) + "1=1", 2, 31);
        badWhen("1=1 and " + "not ".repeat(6) + "1=1", 2, 32);
        bad(HEAD + "not ".repeat(100), 2, BODY + 24);
    }

    // "an e or a one within 6 others (in ( ) ..)"
    private static void withinSixBrackets() {
        for (int deep = 0; deep <= 5; deep++) {
            goodWhen("(".repeat(deep) + "1=1" + ")".repeat(deep));
            goodWhen("(".repeat(deep) + "1=1 or 1=1 and 1=1" + ")".repeat(deep));
        }
        badWhen("(".repeat(6) + "1=1" + ")".repeat(6), 2, 6);
        badWhen("(".repeat(5) + " ( \n1=1" + ")".repeat(6), 2, 9);
        badWhen("(".repeat(7) + "1=1" + ")".repeat(7), 2, 6);
        bad(HEAD + "(".repeat(500), 2, BODY + 6);
        badWhen("1=1 or " + "(".repeat(6) + "1=1" + ")".repeat(6), 2, 13);
    }

    private static void withinSixOfBoth() {
        goodWhen("not(not(not 1=1))");
        badWhen("not(not(not(1=1)))", 2, 12);
        goodWhen("(not(not(1=1)))");
        badWhen("(not(not(not 1=1)))", 2, 13);
        goodWhen("(((((1=1)))))");
        badWhen("((((( not 1=1)))))", 2, 10);
        goodWhen("((((not 1=1))))");
        goodWhen("not not not not(1=1)");
        badWhen("not not not not not(1=1)", 2, 20);
    }

    // What has ended counts no more: behind a ), an and, an or, in the next line.
    private static void withinIsLeft() {
        String five = "(((((1=1)))))";
        goodWhen(five + "and" + five + "or" + five);
        goodWhen("(((((1=1)))and((1=1)))or(((1=1))))and(((((1=1)))))");
        goodWhen("not not not not not 1=1 and not not not not not 1=1");
        goodWhen("((((not 1=1 and not 1=1 or not 1=1))))");
        badWhen("((((not 1=1 and not(1=1)))))", 2, 20);
        badWhen("(((((1=1 and 1=1 or not 1=1)))))", 2, 24);
        good((HEAD + five + ";").repeat(8), 8);
    }

    // "FAULTS, the first by its place"
    private static void firstByItsPlace() {
        bad("grade 0 worth 0;", 3, 6);
        bad("grade 0 $", 3, 6);
        bad("grade 1 1 0 $", 2, 8);
        bad("grade $ 0", 1, 6);
        bad("grade 1 worth 0 $", 3, 14);
        bad(LINE.repeat(8) + "grade $", 2, 128);
        badWhen("1+".repeat(61) + "$", 2, 120);
        badWhen("((((((1=$", 2, 6);
    }

    // "at one place the least"
    private static void leastAtOnePlace() {
        bad("grade 00000", 1, 6);
        bad("grade 0a", 1, 6);
        bad("grade 101a", 1, 6);
        bad("grade 1 00000", 1, 8);
        bad("grade 1 0 0", 2, 8);
        bad("0", 2, 0);
        bad("grade 1 worth 0a", 1, 14);
        bad(LINE.repeat(8) + "$", 1, 128);
        badWhen("1+".repeat(60) + "$", 1, 120);
        badWhen("1+".repeat(59) + "1=$", 1, 120);
        badWhen("((((((abcdefghi", 1, 6);
        badWhen("((((((5a", 1, 6);
    }

    // "the end: the text's length"
    private static void atTheEnd() {
        String whole = HEAD + "not ( knots + 1 < 2 ) and 1 = 1 or 2 > run ;";
        for (int length = 1; length < whole.length(); length++) {
            String text = whole.substring(0, length);
            char last = text.charAt(length - 1);
            char next = whole.charAt(length);
            if (Character.isLetter(last) && Character.isLetter(next)) {
                continue;
            }
            bad(text, 2, length);
            bad(text + " ", 2, length + 1);
            bad(text + "\n\n", 2, length + 2);
        }
        good(whole, 1);
        bad(whole + "grade 1 worth 1", 2, whole.length() + 15);
    }

    // "The TAPE has its first n bytes": those that end() cut off, or that an earlier text left, make no TOKEN longer.
    private static void cutBytesAreNoText() {
        String[] behind = {"x", "worth", "7", "12345", "$", ";"};
        for (String cut : behind) {
            cutGrades("grade 5", cut, -1, 2, 7);
            cutGrades("grade", cut, -1, 2, 5);
            cutGrades("grade 1 worth 1234", cut, -1, 2, 18);
            cutGrades(HEAD + "1=1", cut, -1, 2, BODY + 3);
            cutGrades(HEAD + "run=run", cut, -1, 2, BODY + 7);
            cutGrades(LINE, cut, 1, 0, -1);
            cutGrades("", cut, 0, 0, -1);
        }
        PlyHouse house = new PlyHouse();
        Check.tape(house, "x".repeat(600));
        house.grades();
        Check.tape(house, " ".repeat(13) + "grade 5");
        CHECK.due("a text that fills its last feed", house.grades(), -1);
        CHECK.due("the end is at fault", house.fault(0), 2);
        CHECK.due("the end of twenty bytes", house.fault(1), 20);
    }

    private static void cutGrades(String text, String cut, int lines, int fault, int place) {
        PlyHouse house = new PlyHouse();
        Check.tape(house, text + cut);
        CHECK.due("cut off: " + text + "|" + cut, house.end(text.length()), text.length());
        CHECK.due("grades of " + text + "|" + cut, house.grades(), lines);
        CHECK.due("fault of " + text + "|" + cut, house.fault(0), fault);
        CHECK.due("place of " + text + "|" + cut, house.fault(1), place);
    }

    // Each kind of TOKEN at each place at which another must stand.
    private static void everyPlaceOfTheGrammar() {
        String[] tokens =
            {"grade", "worth", "when", "or", "and", "not", "knots", "7", "other", ";", "(", ")", "<", "+"};
        String[][] places = {
            {"", "grade"}, {"grade ", "7"}, {"grade 1 ", "worth"}, {"grade 1 worth ", "7"},
            {"grade 1 worth 1 ", "when", ";"}, {HEAD, "not", "(", "knots", "7"},
            {HEAD + "not ", "not", "(", "knots", "7"}, {HEAD + "( ", "not", "(", "knots", "7"},
            {HEAD + "1 ", "<", "+"}, {HEAD + "1 + ", "knots", "7"}, {HEAD + "1 - ", "knots", "7"},
            {HEAD + "1 < ", "knots", "7"}, {HEAD + "1 > ", "knots", "7"},
            {HEAD + "1 = ", "knots", "7"}, {HEAD + "1 = 1 ", "or", "and", "+", ";"},
            {HEAD + "( 1 = 1 ", "or", "and", "+", ")"}, {HEAD + "( 1 = 1 ) ", "or", "and", ";"},
            {HEAD + "not 1 = 1 ", "or", "and", "+", ";"}, {HEAD + "( ( 1 = 1 ) ", "or", "and", ")"},
            {HEAD + "1 = 1 and ", "not", "(", "knots", "7"}, {HEAD + "1 = 1 or ", "not", "(", "knots", "7"},
            {LINE, "grade"}, {HEAD + "1 = run ; ", "grade"}};
        for (String[] place : places) {
            for (String token : tokens) {
                boolean stands = java.util.Arrays.asList(place).indexOf(token) > 0;
                String text = place[0] + token;
                if (stands && token.equals(";")) {
                    good(text, 1);
                } else {
                    bad(text, 2, stands ? text.length() : place[0].length());
                }
            }
        }
    }

    // "how many lines; NONE: a FAULT (those there are stay)"
    private static void gradesThatThereAreStay() {
        PlyHouse house = new PlyHouse();
        Check.leaf(house, "..k");
        CHECK.due("two lines", Check.grades(house, "grade 2 worth 7 when knots=0;grade 1 worth 2 when knots=1;"), 2);
        String[] wrong = {"grade 1 worth 9999;grade 1 worth 9999;grade 1 worth 9999;grade", "$", "grade 0",
            LINE.repeat(9), HEAD + "1=2;" + HEAD + "1=2 or", HEAD + "((((((1=1))))));"};
        for (String text : wrong) {
            CHECK.due("a fault", Check.grades(house, text), -1);
            CHECK.due("two stay", house.about(0), 2);
            CHECK.due("the first stays", house.sheet(0, 0, 0), 1);
            CHECK.due("its when stays", house.sheet(1, 0, 0), 0);
            CHECK.due("the second stays", house.sheet(2, 1, 0), 1);
            CHECK.due("no third", house.sheet(0, 2, 0), -1);
            CHECK.due("worth stays", house.worth(), 9);
        }
        CHECK.due("one line takes their place", Check.grades(house, "grade 3 worth 1;"), 1);
        CHECK.due("one", house.about(0), 1);
        CHECK.due("no second", house.sheet(0, 1, 0), -1);
        CHECK.due("worth of it", house.worth(), 1);
        CHECK.due("an empty text takes its place", house.grades(), 0);
        CHECK.due("none", house.about(0), 0);
        CHECK.due("worth of none", house.worth(), 0);
    }

    // Nothing of earlier texts, read or refused, is left that a later one could run full of.
    private static void gradesManyTimes() {
        PlyHouse house = new PlyHouse();
        Check.leaf(house, "k");
        String sixty = HEAD + "not not not not not 1=1 or ".repeat(15) + "1=2;"
            + HEAD + "1+".repeat(24) + "1=1 or 1=1;";
        for (int times = 0; times < 7; times++) {
            CHECK.due("the longest", Check.grades(house, sixty), 2);
            CHECK.due("its first e", house.sheet(0, 0, 0), 0);
            CHECK.due("its second e", house.sheet(0, 1, 0), 1);
            CHECK.due("a refused one", Check.grades(house, sixty + HEAD + "1=1;"), -1);
            CHECK.due("its second e still", house.sheet(0, 1, 0), 1);
        }
        CHECK.due("an e behind all that", Check.grades(house, HEAD + "knots=1 and not splits=1;"), 1);
        CHECK.due("it holds", house.sheet(0, 0, 0), 1);
        Check.leaf(house, "s");
        CHECK.due("it does not hold", house.sheet(0, 0, 0), 0);
    }
}
