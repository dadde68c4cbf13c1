import java.nio.charset.StandardCharsets;
import java.util.function.IntPredicate;

/** Counts answers that are not the ones that are due, and brings texts onto an object's tape. */
final class Check {
    private static final int SHOWN = 20;

    private int calls;
    private int wrong;

    void due(String call, long got, long want) {
        calls++;
        if (got != want) {
            wrong++;
            if (wrong <= SHOWN) {
                System.out.println(call + " answered " + got + ", due is " + want);
            }
        }
    }

    void due(String call, boolean got, boolean want) {
        due(call, got ? 1 : 0, want ? 1 : 0);
    }

    /** The last values that may be and the first that may not, on both sides, and those farthest off. */
    void bounds(String number, IntPredicate taken, int low, int high) {
        int[] outside = {low - 1, high + 1, Integer.MIN_VALUE, Integer.MAX_VALUE};
        for (int value : outside) {
            due(number + " " + value + " may not be", taken.test(value), false);
        }
        due(number + " " + low + " may be", taken.test(low), true);
        due(number + " " + high + " may be", taken.test(high), true);
    }

    /** A text that is grades of so many lines. */
    void goodGrades(String text, int lines) {
        readGrades(text, lines, 0, -1);
    }

    /** A text with a fault; a new object has no grades then. */
    void badGrades(String text, int fault, int place) {
        readGrades(text, -1, fault, place);
    }

    private void readGrades(String text, int lines, int fault, int place) {
        PlyHouse house = new PlyHouse();
        due("grades of " + text, grades(house, text), lines);
        due("fault of " + text, house.fault(0), fault);
        due("place of " + text, house.fault(1), place);
        due("lines of " + text, house.about(0), Math.max(0, lines));
        due("tape behind " + text, house.about(3), 0);
    }

    void finish(String name) {
        System.out.println(name + ": " + calls + " answers, " + wrong + " wrong");
        if (wrong != 0) {
            System.exit(1);
        }
    }

    static byte[] bytes(String text) {
        return text.getBytes(StandardCharsets.ISO_8859_1);
    }

    /** Feeds a text of at most 600 bytes onto an empty tape and cuts what the last feed brought too much. */
    static void tape(PlyHouse house, String text) {
        byte[] all = bytes(text);
        for (int from = 0; from < all.length; from += 20) {
            house.feed(four(all, from), four(all, from + 4), four(all, from + 8), four(all, from + 12),
                four(all, from + 16));
        }
        house.end(all.length);
    }

    private static int four(byte[] all, int from) {
        int word = 0;
        for (int at = from; at < from + 4; at++) {
            word = word << 8 | (at < all.length ? all[at] & 255 : 0);
        }
        return word;
    }

    static int grades(PlyHouse house, String text) {
        tape(house, text);
        return house.grades();
    }

    static int leaf(PlyHouse house, String text) {
        tape(house, text);
        return house.leaf();
    }
}
