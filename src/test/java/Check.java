import java.nio.charset.StandardCharsets;

/** Counts answers that are not the ones that are due, and brings texts onto an object's tape. */
final class Check {
    private static final int SHOWN = 20;

    private int calls;
    private int wrong;

    void due(String call, long got, long want) {
        calls++;
        if (got != want) {
            wrong++;
            if (wrong <= SHOWN) {
                System.out.println(call + " answered " + got + ", due is " + want);
            }
        }
    }

    void due(String call, boolean got, boolean want) {
        due(call, got ? 1 : 0, want ? 1 : 0);
    }

    void finish(String name) {
        System.out.println(name + ": " + calls + " answers, " + wrong + " wrong");
        if (wrong != 0) {
            System.exit(1);
        }
    }

    static byte[] bytes(String text) {
        return text.getBytes(StandardCharsets.ISO_8859_1);
    }

    /** Feeds a text of at most 600 bytes onto an empty tape and cuts what the last feed brought too much. */
    static void tape(PlyHouse house, String text) {
        byte[] all = bytes(text);
        for (int from = 0; from < all.length; from += 20) {
            house.feed(four(all, from), four(all, from + 4), four(all, from + 8), four(all, from + 12),
                four(all, from + 16));
        }
        house.end(all.length);
    }

    private static int four(byte[] all, int from) {
        int word = 0;
        for (int at = from; at < from + 4; at++) {
            word = word << 8 | (at < all.length ? all[at] & 255 : 0);
        }
        return word;
    }

    static int grades(PlyHouse house, String text) {
        tape(house, text);
        return house.grades();
    }

    static int leaf(PlyHouse house, String text) {
        tape(house, text);
        return house.leaf();
    }
}
