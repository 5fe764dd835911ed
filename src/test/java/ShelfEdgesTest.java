import java.util.ArrayList;
import java.util.List;

/** The edges of promises 33 to 42: bodies, acts, the trace, shelves and their rows, counts. */
public final class ShelfEdgesTest {
    private static final String FAR_BELOW = "-2147483648";
    private static final String FAR_ABOVE = "2147483647";
    private static final String[] UNDER = {"0", "01", "02", "023", "014", "0235", "06", "0147"};
    private static final String[] SORTS = {"bytes", "shorts", "ints", "longs", "booleans"};

    public static void main(String[] args) {
        body();
        actRefused();
        act();
        actWraps();
        trace();
        keep();
        row();
        putRefused();
        lowestBits();
        shiftRefused();
        shift();
        taken();
        count();
        Edge.end();
    }

    // promise 33
    private static void body() {
        Edge.holds("33: a KIND (0 .. 7), one less", "body(-1) = BAD", "count(3) = 0");
        Edge.holds("33: a KIND (0 .. 7), one more", "body(8) = BAD", "count(3) = 0");
        Edge.holds("33: a KIND far out", "body(" + FAR_BELOW + ") = BAD", "body(" + FAR_ABOVE + ") = BAD", "count(3) = 0");
        for (int kind = 0; kind < 8; kind++) {
            Edge.holds("33: a KIND (0 .. 7): " + kind, "body(" + kind + ") = 0", "count(3) = 1", "keep(0, 0) = 1", "taken(0, 0) = " + kind);
        }
        Edge.holds("33: BODIES 0 .. 49, as they come", "body(7) = 0", "body(7) = 1", "body(8) = BAD", "body(7) = 2", "46 x body(3) = 48", "body(0) = 49", "count(3) = 50");
        Edge.holds("33: FULL", "50 x body(5) = 49", "body(0) = FULL", "body(7) = FULL", "count(3) = 50", "keep(0, 49) = 1", "taken(0, 5) = 5", "keep(0, 50) = BAD");
        Edge.holds("33: BAD ahead of FULL", "50 x body(5)", "body(8) = BAD", "body(-1) = BAD");
    }

    // promise 34: no such SIP, ACT
    private static void actRefused() {
        String[] none = {"act(0, 0, 5)", "act(-1, 0, 5)", "act(1, 0, 5)", "act(49, 0, 5)", "act(" + FAR_BELOW + ", 0, 5)", "act(" + FAR_ABOVE + ", 0, 5)"};
        for (String call : none) {
            Edge.holds("34: 0, no such SIP", call + " = 0", "count(4) = 0", "trace(0) = BAD");
            if (!call.startsWith("act(0")) {
                Edge.holds("34: no TRACE then, no such SIP", "body(7)", "act(0, 3, 5)", "count(4) = 14", call + " = 0", "count(4) = 0", "trace(0) = BAD", "trace(13) = BAD");
            }
        }
        for (String act : new String[] {"-1", "4", "5", FAR_BELOW, FAR_ABOVE}) {
            Edge.holds("34: no TRACE then, no such ACT", "body(7)", "act(0, 3, 5)", "count(4) = 14", "act(0, " + act + ", 5) = 0", "count(4) = 0", "trace(0) = BAD");
        }
        Edge.holds("34: the last SIP that is there", "50 x body(0)", "act(49, 0, 5) = 54", "count(4) = 1", "act(50, 0, 5) = 0", "count(4) = 0");
        Edge.holds("34: ACT (0 .. 3)", "2 x body(0)", "act(1, 0, 5) = 6", "act(1, 1, 5) = 12", "act(1, 2, 5) = 4", "act(1, 3, 5) = 12");
    }

    private static void acts(int kind, int act, int answer, int... ran) {
        List<String> steps = new ArrayList<>();
        for (int k = 0; k < 8; k++) {
            steps.add("body(" + k + ")");
        }
        steps.add("act(" + kind + ", " + act + ", 10) = " + answer);
        steps.add("count(4) = " + ran.length);
        for (int i = 0; i < ran.length; i++) {
            steps.add("trace(" + i + ") = " + ran[i]);
        }
        steps.add("trace(" + ran.length + ") = BAD");
        steps.add("trace(-1) = BAD");
        Edge.holds("34: act " + act + " of KIND " + kind, steps.toArray(new String[0]));
    }

    /** With n the same as the KIND, and x 10. */
    private static void act() {
        acts(0, 0, 10, 1);
        acts(0, 1, 20, 10, 1);
        acts(0, 2, 10, 11);
        acts(0, 3, 20 - 1, 2, 10, 1, 11);
        acts(1, 0, 11 + 3, 20, 1);
        acts(1, 1, 14 * 2, 10, 20, 1);
        acts(1, 2, 10 ^ 1, 11);
        acts(1, 3, 28 - (1 ^ 1), 2, 10, 20, 1, 11);
        acts(2, 0, 12, 1);
        acts(2, 1, -24, 30, 10, 1);
        acts(2, 2, 10 ^ 2, 11);
        acts(2, 3, -24 - (1 ^ 2), 2, 30, 10, 1, 11);
        acts(3, 0, 13, 1);
        acts(3, 1, -(14 * 2), 41, 30, 10, 1);
        acts(3, 2, (10 ^ 3) * 3, 40, 11);
        acts(3, 3, -28 - (1 ^ 3) * 3, 2, 41, 30, 10, 1, 40, 11);
        acts(4, 0, 14 + 3, 20, 1);
        acts(4, 1, 34, 10, 20, 1);
        acts(4, 2, (10 ^ 4) - (2 + 4 + 3), 50, 11, 20, 1);
        acts(4, 3, 34 - ((1 ^ 4) - 9), 2, 10, 20, 1, 50, 11, 20, 1);
        acts(5, 0, 15, 1);
        acts(5, 1, -(16 * 2), 41, 30, 10, 1);
        acts(5, 2, (10 ^ 5) * 3, 40, 11);
        acts(5, 3, (-32 - (1 ^ 5) * 3) ^ 5, 60, 2, 41, 30, 10, 1, 40, 11);
        acts(6, 0, 16 * 2, 70, 1);
        acts(6, 1, 64, 10, 70, 1);
        acts(6, 2, 10 ^ 6, 11);
        acts(6, 3, 64 - (1 ^ 6), 2, 10, 70, 1, 11);
        acts(7, 0, 17 + 3, 20, 1);
        acts(7, 1, 40 + ((2 ^ 7) - (9 + 3)), 80, 10, 20, 1, 50, 11, 20, 1);
        acts(7, 2, (10 ^ 7) - 12, 50, 11, 20, 1);
        acts(7, 3, 40 + ((2 ^ 7) - 12) - ((1 ^ 7) - 12) - 1, 81, 2, 80, 10, 20, 1, 50, 11, 20, 1, 50, 11, 20, 1);
    }

    // promise 34: ints that wrap
    private static void actWraps() {
        int[] values = {Integer.MAX_VALUE, Integer.MIN_VALUE, Integer.MAX_VALUE - 1, Integer.MIN_VALUE + 1, 1 << 30, -(1 << 30) - 1, -1, 0};
        for (int x : values) {
            Edge.holds("34: x, an int that wraps, of a SIP: " + x, "2 x body(0)", "act(1, 0, " + x + ") = " + (x + 1), "act(1, 1, " + x + ") = " + (x + 1) * 2, "act(1, 2, " + x + ") = " + (x ^ 1), "act(1, 3, " + x + ") = " + (x + 1) * 2);
            Edge.holds("34: x, an int that wraps, of others: " + x, "body(2)", "body(3)", "body(1)", "body(6)", "act(0, 1, " + x + ") = " + -(x * 2), "act(1, 1, " + x + ") = " + -((x + 2) * 2), "act(1, 2, " + x + ") = " + (x ^ 1) * 3,
                "act(2, 0, " + x + ") = " + (x + 5), "act(3, 0, " + x + ") = " + (x + 3) * 2);
            Edge.holds("34: x, an int that wraps, of the lowest: " + x, "body(7)", "act(0, 1, " + x + ") = " + ((x + 3) * 2 + (2 - 5)), "act(0, 3, " + x + ") = " + ((x + 3) * 2 - 3 - (1 - 5) - 1), "body(5)",
                "act(1, 3, " + x + ") = " + ((-((x + 2) * 2) - (1 ^ 1) * 3) ^ 5));
        }
    }

    // promise 35
    private static void trace() {
        Edge.holds("35: none ran", "trace(-1) = BAD", "trace(0) = BAD", "trace(1) = BAD", "trace(23) = BAD", "trace(24) = BAD", "trace(" + FAR_BELOW + ") = BAD", "trace(" + FAR_ABOVE + ") = BAD");
        Edge.holds("35: the first and the last one", "body(7)", "act(0, 3, 5)", "trace(-1) = BAD", "trace(0) = 81", "trace(13) = 1", "trace(14) = BAD", "trace(23) = BAD", "trace(24) = BAD", "trace(" + FAR_BELOW + ") = BAD", "trace(" + FAR_ABOVE + ") = BAD");
        Edge.holds("35: of the latest act()", "body(7)", "act(0, 3, 5)", "act(0, 0, 5)", "trace(0) = 20", "trace(1) = 1", "trace(2) = BAD", "count(4) = 2");
        Edge.holds("35: another call leaves it", "body(7)", "act(0, 0, 5)", "body(8) = BAD", "keep(0, 0)", "second()", "body(1)", "trace(0) = 20", "count(4) = 2");
    }

    // promise 36
    private static void keep() {
        Edge.holds("36: SHELVES 0 .. 5", "body(3)", "keep(-1, 0) = BAD", "keep(0, 0) = 1", "keep(5, 0) = 1", "keep(6, 0) = BAD", "keep(6, -1) = BAD", "keep(-1, -1) = BAD", "keep(" + FAR_BELOW + ", 0) = BAD", "keep(" + FAR_ABOVE + ", 0) = BAD",
            "taken(0, 3) = 3", "taken(5, 3) = 3", "taken(4, 3) = NOTHING");
        Edge.holds("36: nothing (body -1), or a SIP that is there", "keep(0, 0) = BAD", "body(3)", "keep(0, -2) = BAD", "keep(0, -1) = 1", "keep(0, 0) = 1", "keep(0, 1) = BAD", "keep(0, " + FAR_BELOW + ") = BAD", "keep(0, " + FAR_ABOVE + ") = BAD");
        Edge.holds("36: the last SIP", "50 x body(3)", "keep(0, 49) = 1", "keep(0, 50) = BAD", "taken(0, 3) = 3");
        Edge.holds("36: a refused one leaves what it holds", "body(3)", "keep(0, 0)", "keep(0, 7) = BAD", "taken(0, 3) = 3", "row(0, 3, 2)", "put(0, 1, 9)", "keep(0, -2) = BAD", "element(0, 1) = 9");
        Edge.holds("36: nothing, where a ROW was", "row(0, 3, 2)", "keep(0, -1) = 1", "element(0, 0) = MIN", "put(0, 0, 1) = NOTHING", "taken(0, 0) = NOTHING");
        Edge.holds("36: a SIP, where a ROW was", "row(0, 1, 2)", "body(3)", "keep(0, 0) = 1", "element(0, 0) = MIN", "put(0, 0, 1) = KIND", "judge(0) = KIND");
        Edge.holds("36: nothing, where nothing was", "keep(0, -1) = 1", "taken(0, 0) = NOTHING");
        Edge.holds("36: the same SIP on two SHELVES", "body(3)", "keep(0, 0)", "keep(1, 0)", "keep(0, -1)", "taken(1, 3) = 3", "taken(0, 3) = NOTHING");
    }

    // promise 37
    private static void row() {
        Edge.holds("37: SHELVES 0 .. 5", "row(-1, 0, 1) = BAD", "row(0, 0, 1) = 1", "row(5, 0, 1) = 1", "row(6, 0, 1) = BAD", "row(" + FAR_BELOW + ", 0, 1) = BAD", "row(" + FAR_ABOVE + ", 0, 1) = BAD", "element(5, 0) = 0", "element(4, 0) = MIN");
        Edge.holds("37: sorts 0 .. 4", "row(0, -1, 1) = BAD", "row(0, 0, 1) = 1", "row(0, 4, 1) = 1", "row(0, 5, 1) = BAD", "row(0, " + FAR_BELOW + ", 1) = BAD", "row(0, " + FAR_ABOVE + ", 1) = BAD");
        for (int sort = 0; sort < 5; sort++) {
            String head = "row(2, " + sort + ", ";
            Edge.holds("37: 0 .. 60 elements, of " + SORTS[sort], head + "0) = 1", "element(2, 0) = MIN", "put(2, 0, 1) = PLACE", head + "1) = 1", "element(2, 0) = 0", "element(2, 1) = MIN", head + "59) = 1", "element(2, 58) = 0", "element(2, 59) = MIN",
                head + "60) = 1", "element(2, 59) = 0", "element(2, 60) = MIN", head + "61) = BAD", "element(2, 59) = 0", head + "" + FAR_ABOVE + ") = BAD");
            Edge.holds("37: -14 a size below 0, of " + SORTS[sort], head + "-1) = SIZE", head + FAR_BELOW + ") = SIZE", "taken(2, 0) = NOTHING", head + "3)", "put(2, 2, 1)", head + "-1) = SIZE", "element(2, 2) = 1");
            Edge.holds("37: 0 at first (false), of " + SORTS[sort], head + "60)", "60 x put(2, 7, 1)", "put(2, 59, 1)", "put(2, 0, 1)", head + "60)", "element(2, 0) = 0", "element(2, 7) = 0", "element(2, 59) = 0");
            Edge.holds("37: 0 at first (false), behind a shorter one, of " + SORTS[sort], head + "60)", "put(2, 59, 1)", head + "5)", "element(2, 59) = MIN", head + "60)", "element(2, 59) = 0");
        }
        Edge.holds("37: BAD ahead of -14", "row(6, 0, -1) = BAD", "row(-1, 0, -1) = BAD", "row(0, 5, -1) = BAD", "row(0, -1, -1) = BAD", "row(0, 0, -1) = SIZE");
        Edge.holds("37: a refused one leaves what it holds", "body(3)", "keep(0, 0)", "row(0, 0, 61) = BAD", "row(0, 5, 1) = BAD", "row(0, 0, -1) = SIZE", "taken(0, 3) = 3");
        Edge.holds("37: a ROW, where a SIP was", "body(3)", "keep(0, 0)", "row(0, 2, 1) = 1", "taken(0, 3) = KIND", "element(0, 0) = 0");
    }

    // promises 38 and 39: what is refused
    private static void putRefused() {
        Edge.holds("38, 39: SHELVES 0 .. 5", "row(0, 3, 1)", "row(5, 3, 1)", "put(-1, 0, 1) = BAD", "put(0, 0, 1) = 1", "put(5, 0, 1) = 1", "put(6, 0, 1) = BAD", "put(" + FAR_BELOW + ", 0, 1) = BAD", "put(" + FAR_ABOVE + ", 0, 1) = BAD", "element(-1, 0) = MIN",
            "element(0, 0) = 1", "element(5, 0) = 1", "element(6, 0) = MIN", "element(" + FAR_BELOW + ", 0) = MIN", "element(" + FAR_ABOVE + ", 0) = MIN");
        Edge.holds("38, 39: -11 nothing is there", "put(0, 0, 1) = NOTHING", "put(0, -1, 1) = NOTHING", "put(0, 60, 1) = NOTHING", "element(0, 0) = MIN", "element(0, -1) = MIN");
        Edge.holds("38, 39: -12 a SIP", "body(0)", "keep(0, 0)", "put(0, 0, 1) = KIND", "put(0, -1, 1) = KIND", "put(0, 60, 1) = KIND", "element(0, 0) = MIN");
        for (int sort = 0; sort < 5; sort++) {
            String head = "row(1, " + sort + ", ";
            Edge.holds("38, 39: -13 a place that is not there, of " + SORTS[sort], head + "3)", "put(1, -1, 1) = PLACE", "put(1, 0, 1) = 1", "put(1, 2, 1) = 1", "put(1, 3, 1) = PLACE", "put(1, 59, 1) = PLACE", "put(1, " + FAR_BELOW + ", 1) = PLACE",
                "put(1, " + FAR_ABOVE + ", 1) = PLACE", "element(1, -1) = MIN", "element(1, 0) = 1", "element(1, 1) = 0", "element(1, 2) = 1", "element(1, 3) = MIN", "element(1, " + FAR_BELOW + ") = MIN", "element(1, " + FAR_ABOVE + ") = MIN");
            Edge.holds("38, 39: -13 without elements, of " + SORTS[sort], head + "0)", "put(1, 0, 1) = PLACE", "element(1, 0) = MIN");
            Edge.holds("38, 39: 60 elements, of " + SORTS[sort], head + "60)", "put(1, 59, 1) = 1", "put(1, 60, 1) = PLACE", "element(1, 59) = 1", "element(1, 60) = MIN");
        }
    }

    // promises 38 and 39: what is put in keeps its lowest bits
    private static void lowestBits() {
        long[] values = {0, 1, -1, 127, 128, 255, 256, -128, -129, -256, 32767, 32768, 65535, 65536, -32768, -32769, Integer.MAX_VALUE, Integer.MAX_VALUE + 1L, 1L << 32, (1L << 32) + 7, Integer.MIN_VALUE, Integer.MIN_VALUE - 1L, -(1L << 32),
            Long.MAX_VALUE, Long.MIN_VALUE + 1, 0x123456789abcdef0L, 2, 1L << 63 >> 1};
        for (long v : values) {
            long[] kept = {(byte) v, (short) v, (int) v, v, v != 0 ? 1 : 0};
            for (int sort = 0; sort < 5; sort++) {
                Edge.holds("38: what is put in keeps its lowest bits, of " + SORTS[sort] + ": " + v, "row(0, " + sort + ", 3)", "put(0, 1, " + v + ") = 1", "element(0, 1) = " + kept[sort], "element(0, 0) = 0", "element(0, 2) = 0");
            }
        }
        Edge.holds("38: the least long of all", "row(0, 3, 1)", "put(0, 0, 5)", "put(0, 0, -9223372036854775808) = 1", "element(0, 0) = -9223372036854775808");
        Edge.holds("38: becomes v, whatever it was", "row(0, 4, 1)", "put(0, 0, 7)", "element(0, 0) = 1", "put(0, 0, 0)", "element(0, 0) = 0", "row(0, 0, 1)", "put(0, 0, 7)", "put(0, 0, 256)", "element(0, 0) = 0");
    }

    // promise 40: what is refused
    private static void shiftRefused() {
        String[] rows = {"row(0, 2, 5)", "row(1, 2, 3)", "put(0, 0, 7)"};
        Edge.holds("40: SHELVES 0 .. 5", rows[0], rows[1], "shift(-1, 0, 0, 0, 1) = BAD", "shift(6, 0, 0, 0, 1) = BAD", "shift(0, 0, -1, 0, 1) = BAD", "shift(0, 0, 6, 0, 1) = BAD", "shift(" + FAR_BELOW + ", 0, 0, 0, 1) = BAD", "shift(0, 0, " + FAR_ABOVE + ", 0, 1) = BAD",
            "row(5, 2, 1)", "shift(5, 0, 0, 0, 1) = 1", "shift(0, 0, 5, 0, 1) = 1");
        Edge.holds("40: BAD ahead of -11", "shift(6, 0, 0, 0, 1) = BAD", "shift(0, 0, 6, 0, 1) = BAD", "shift(-1, 0, 0, 0, -1) = BAD");
        Edge.holds("40: -11 (either)", rows[0], "shift(4, 0, 0, 0, 1) = NOTHING", "shift(0, 0, 4, 0, 1) = NOTHING", "shift(4, 0, 4, 0, 1) = NOTHING", "shift(4, 0, 3, 0, 0) = NOTHING", "shift(4, -1, 0, 9, -1) = NOTHING");
        Edge.holds("40: -11 ahead of -12", "body(0)", "keep(0, 0)", "shift(0, 0, 4, 0, 1) = NOTHING", "shift(4, 0, 0, 0, 1) = NOTHING");
        Edge.holds("40: -12 no ROWS", rows[0], "body(0)", "keep(1, 0)", "keep(2, 0)", "shift(0, 0, 1, 0, 1) = KIND", "shift(1, 0, 0, 0, 1) = KIND", "shift(1, 0, 2, 0, 1) = KIND", "shift(1, 0, 1, 0, 0) = KIND");
        for (int sort = 0; sort < 5; sort++) {
            for (int other = 0; other < 5; other++) {
                String there = sort == other ? " = 2" : " = KIND";
                Edge.holds("40: of like sorts alone: " + SORTS[sort] + " to " + SORTS[other], "row(0, " + sort + ", 3)", "row(1, " + other + ", 3)", "put(0, 1, 1)", "shift(0, 0, 1, 1, 2)" + there, "element(1, 2) = " + (sort == other ? 1 : 0),
                    "shift(0, 9, 1, 9, -1) = " + (sort == other ? "PLACE" : "KIND"), "shift(0, 0, 1, 0, 0) = " + (sort == other ? "0" : "KIND"));
            }
        }
        Edge.holds("40: -13 from a place that is not there", rows[0], rows[1], rows[2], "shift(0, -1, 1, 0, 1) = PLACE", "shift(0, 5, 1, 0, 1) = PLACE", "shift(0, 6, 1, 0, 0) = PLACE", "shift(0, 3, 1, 0, 3) = PLACE", "shift(0, " + FAR_BELOW + ", 1, 0, 1) = PLACE",
            "shift(0, " + FAR_ABOVE + ", 1, 0, 1) = PLACE", "shift(0, -1, 1, 0, 0) = PLACE", "element(1, 0) = 0");
        Edge.holds("40: -13 to a place that is not there", rows[0], rows[1], rows[2], "shift(0, 0, 1, -1, 1) = PLACE", "shift(0, 0, 1, 3, 1) = PLACE", "shift(0, 0, 1, 4, 0) = PLACE", "shift(0, 0, 1, 2, 2) = PLACE", "shift(0, 0, 1, 0, 4) = PLACE",
            "shift(0, 0, 1, " + FAR_BELOW + ", 1) = PLACE", "shift(0, 0, 1, " + FAR_ABOVE + ", 1) = PLACE", "shift(0, 0, 1, -1, 0) = PLACE", "element(1, 0) = 0", "element(1, 2) = 0");
        Edge.holds("40: -13 n below 0, n far out", rows[0], rows[1], rows[2], "shift(0, 0, 1, 0, -1) = PLACE", "shift(0, 1, 1, 1, -1) = PLACE", "shift(0, 0, 1, 0, " + FAR_BELOW + ") = PLACE", "shift(0, 0, 1, 0, " + FAR_ABOVE + ") = PLACE",
            "shift(0, 1, 1, 1, " + FAR_ABOVE + ") = PLACE", "element(1, 0) = 0");
    }

    // promise 40
    private static void shift() {
        String[] rows = {"row(0, 2, 5)", "row(1, 2, 3)", "put(0, 0, 1)", "put(0, 1, 2)", "put(0, 2, 3)", "put(0, 3, 4)", "put(0, 4, 5)"};
        moves("40: all that go in", rows, "shift(0, 0, 1, 0, 3) = 3", 1, 1, 2, 3);
        moves("40: to the very end of both", rows, "shift(0, 3, 1, 1, 2) = 2", 1, 0, 4, 5);
        moves("40: the last one to the last place", rows, "shift(0, 4, 1, 2, 1) = 1", 1, 0, 0, 5);
        moves("40: none", rows, "shift(0, 0, 1, 0, 0) = 0", 1, 0, 0, 0);
        moves("40: none at the ends", rows, "shift(0, 5, 1, 3, 0) = 0", 1, 0, 0, 0);
        moves("40: the same one, upwards, as they all were before", rows, "shift(0, 0, 0, 1, 4) = 4", 0, 1, 1, 2, 3, 4);
        moves("40: the same one, downwards, as they all were before", rows, "shift(0, 1, 0, 0, 4) = 4", 0, 2, 3, 4, 5, 5);
        moves("40: the same one, to where they are", rows, "shift(0, 0, 0, 0, 5) = 5", 0, 1, 2, 3, 4, 5);
        moves("40: the same one, by two", rows, "shift(0, 0, 0, 2, 3) = 3", 0, 1, 2, 1, 2, 3);
        moves("40: those they come from stay", rows, "shift(0, 1, 1, 0, 2) = 2", 0, 1, 2, 3, 4, 5);
        Edge.holds("40: 60 of them", "row(0, 3, 60)", "row(1, 3, 60)", "put(0, 0, 7)", "put(0, 59, -9)", "shift(0, 0, 1, 0, 60) = 60", "element(1, 0) = 7", "element(1, 59) = -9", "shift(0, 0, 1, 0, 61) = PLACE", "shift(0, 1, 1, 0, 60) = PLACE", "shift(0, 60, 1, 60, 0) = 0",
            "shift(0, 61, 1, 60, 0) = PLACE");
        Edge.holds("40: ROWS without elements", "row(0, 3, 0)", "shift(0, 0, 0, 0, 0) = 0", "shift(0, 0, 0, 0, 1) = PLACE");
    }

    private static void moves(String sentence, String[] rows, String call, int shelf, int... due) {
        List<String> steps = new ArrayList<>(List.of(rows));
        steps.add(call);
        for (int i = 0; i < due.length; i++) {
            steps.add("element(" + shelf + ", " + i + ") = " + due[i]);
        }
        Edge.holds(sentence, steps.toArray(new String[0]));
    }

    // promise 41
    private static void taken() {
        for (int kind = 0; kind < 8; kind++) {
            for (int k = 0; k < 8; k++) {
                Edge.holds("41: a SIP of KIND " + kind + ", taken for one of KIND " + k, "body(" + kind + ")", "keep(2, 0)", "taken(2, " + k + ") = " + (UNDER[kind].indexOf('0' + k) >= 0 ? "" + kind : "KIND"));
            }
        }
        Edge.holds("41: KIND k (0 .. 7)", "body(7)", "keep(0, 0)", "taken(0, -1) = BAD", "taken(0, 0) = 7", "taken(0, 7) = 7", "taken(0, 8) = BAD", "taken(0, " + FAR_BELOW + ") = BAD", "taken(0, " + FAR_ABOVE + ") = BAD");
        Edge.holds("41: SHELVES 0 .. 5", "body(7)", "keep(0, 0)", "keep(5, 0)", "taken(-1, 0) = BAD", "taken(0, 0) = 7", "taken(5, 0) = 7", "taken(6, 0) = BAD", "taken(" + FAR_BELOW + ", 0) = BAD", "taken(" + FAR_ABOVE + ", 0) = BAD");
        Edge.holds("41: BAD ahead of -11, of -12", "taken(0, 8) = BAD", "taken(0, -1) = BAD", "row(0, 0, 0)", "taken(0, 8) = BAD", "taken(6, 0) = BAD", "taken(1, 8) = BAD");
        Edge.holds("41: -11 nothing is there", "taken(0, 0) = NOTHING", "taken(0, 7) = NOTHING");
        for (int sort = 0; sort < 5; sort++) {
            Edge.holds("41: -12 a ROW of " + SORTS[sort], "row(0, " + sort + ", 3)", "taken(0, 0) = KIND", "taken(0, 7) = KIND", "row(0, " + sort + ", 0)", "taken(0, 0) = KIND");
        }
        Edge.holds("41: a SIP of number 0, and of number 49", "49 x body(1)", "body(6)", "keep(0, 0)", "keep(1, 49)", "taken(0, 1) = 1", "taken(1, 6) = 6", "taken(0, 6) = KIND", "taken(1, 1) = KIND");
    }

    // promise 42
    private static void count() {
        Edge.holds("42: what 0 .. 4", "count(-1) = BAD", "count(0) = 0", "count(4) = 0", "count(5) = BAD", "count(" + FAR_BELOW + ") = BAD", "count(" + FAR_ABOVE + ") = BAD");
        Edge.holds("42: STRAWS, none to three", "count(0) = 0", "straw(1, 1)", "count(0) = 1", "straw(1, 1)", "count(0) = 2", "straw(1, 1)", "count(0) = 3", "straw(1, 1) = FULL", "count(0) = 3");
        Edge.holds("42: bytes on THE TAPE, none to 120", "count(1) = 0", "feed(0)", "count(1) = 1", "119 x feed(255)", "count(1) = 120", "feed(1) = FULL", "count(1) = 120", "law()", "count(1) = 0");
        Edge.holds("42: changes that may be UNDONE", "straw(1, 1)", "mend(0, 0, 2)", "count(2) = 1", "mend(0, 0, 3)", "count(2) = 2", "undo()", "count(2) = 1", "redo()", "count(2) = 2", "2 x undo()", "count(2) = 0");
        Edge.holds("42: BODIES, none to 50", "count(3) = 0", "body(0)", "count(3) = 1", "49 x body(7)", "count(3) = 50", "body(0) = FULL", "count(3) = 50");
        Edge.holds("42: bodies that ran in the latest act()", "body(7)", "count(4) = 0", "act(0, 3, 1)", "count(4) = 14", "act(0, 0, 1)", "count(4) = 2", "act(0, 9, 1)", "count(4) = 0");
    }
}
