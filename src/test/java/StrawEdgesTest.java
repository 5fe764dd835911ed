/** The edges of promises 1 to 5: a new object, straws, straws from a row, mend() and of(). */
public final class StrawEdgesTest {
    private static final String[] NAMES = {"STRONG", "WIDE", "REACH", "TIRES", "EVERY", "RESTS", "HOLE", "STOPS", "MELTS", "SUGARED", "SUGAR", "HICCUPS"};
    private static final int[] LEAST = {0, 1, 0, 1, 1, 0, -1, 0, 0, 0, 0, 0};
    private static final int[] MOST = {20, 9, 999, 99, 60, 60, 999, 999, 9, 999, 9, 12};
    private static final int[] FIRST = {7, 3, 8, 10, 60, 0, -1, 999, 1, 0, 1, 0};
    private static final String FAR_BELOW = "-2147483648";
    private static final String FAR_ABOVE = "2147483647";

    public static void main(String[] args) {
        newObject();
        straw();
        strawsRefused();
        strawsEnd();
        strawsNotSo();
        mend();
        mendRefused();
        of();
        Edge.end();
    }

    // promise 1: a glass, no straws
    private static void newObject() {
        Edge.holds("1: LEVEL (200 at first)", "of(0, 12) = 200", "level(0, 0) = 200");
        Edge.holds("1: ICE (0 at first)", "of(0, 13) = 0", "level(0, 1) = 0", "level(999, 0) = 200");
        Edge.holds("1: MELTS (1 at first)", "of(0, 8) = 1");
        Edge.holds("1: SUGARED (0 at first)", "of(0, 9) = 0");
        Edge.holds("1: SUGAR (1 at first)", "of(0, 10) = 1");
        Edge.holds("1: HICCUPS (0 at first)", "of(0, 11) = 0");
        Edge.holds("1: s is 0 on", "of(0, 14) = 0");
        Edge.holds("1: no straws", "count(0) = 0", "of(0, 0) = VOID", "mend(0, 0, 1) = VOID", "wants(0, 0, 0) = BAD", "glass(0, 0, 0) = BAD", "stopFor(0) = BAD", "led(0, 0) = BAD");
        Edge.holds("1: no straws, nobody to drink", "more(9, 0) = NOT", "more(9, 1) = 0", "empty() = 0", "both(9, 0) = STATE", "drawn(1, 1, -1) = 200");
        Edge.holds("1: THE TAPE is empty", "count(1) = 0", "law() = -100");
        Edge.holds("1: there is no LAW", "straw(7, 0)", "mend(0, 1, 2)", "wants(0, 999, 25) = 2");
        Edge.holds("1: nothing was led", "led(0, 3) = 0", "led(0, 4) = 0", "straw(7, 0)", "led(0, 0) = 0", "led(0, 1) = 0", "led(0, 2) = 0");
        Edge.holds("1: no CHANGES", "count(2) = 0", "undo() = STATE", "redo() = STATE");
        Edge.holds("1: no IMAGE", "back() = STATE");
        Edge.holds("1: no BODIES", "count(3) = 0", "keep(0, 0) = BAD", "act(0, 0, 5) = 0");
        Edge.holds("1: no TRACE", "count(4) = 0", "trace(0) = BAD");
        for (int shelf = 0; shelf <= 5; shelf++) {
            Edge.holds("1: SHELVES each hold nothing at first", "taken(" + shelf + ", 0) = NOTHING", "judge(" + shelf + ") = NOTHING", "put(" + shelf + ", 0, 1) = NOTHING",
                "element(" + shelf + ", 0) = MIN", "straws(" + shelf + ", 0, 1) = NONE");
        }
    }

    // promise 2
    private static void straw() {
        Edge.holds("2: STRONG (0 .. 20), one less", "straw(-1, 0) = BAD", "count(0) = 0");
        Edge.holds("2: STRONG (0 .. 20), the least", "straw(0, 5) = 0", "of(0, 0) = 0", "count(0) = 1");
        Edge.holds("2: STRONG (0 .. 20), the most", "straw(20, 5) = 0", "of(0, 0) = 20");
        Edge.holds("2: STRONG (0 .. 20), one more", "straw(21, 0) = BAD", "count(0) = 0");
        Edge.holds("2: STRONG far out", "straw(" + FAR_BELOW + ", 0) = BAD", "straw(" + FAR_ABOVE + ", 0) = BAD", "count(0) = 0");
        Edge.holds("2: REACH (0 .. 999), one less", "straw(5, -1) = BAD", "count(0) = 0");
        Edge.holds("2: REACH (0 .. 999), the least", "straw(5, 0) = 0", "of(0, 2) = 0");
        Edge.holds("2: REACH (0 .. 999), the most", "straw(5, 999) = 0", "of(0, 2) = 999");
        Edge.holds("2: REACH (0 .. 999), one more", "straw(5, 1000) = BAD", "count(0) = 0");
        Edge.holds("2: REACH far out", "straw(5, " + FAR_BELOW + ") = BAD", "straw(5, " + FAR_ABOVE + ") = BAD", "count(0) = 0");
        Edge.holds("2: STRAWS 0 .. 2, as they come", "straw(1, 11) = 0", "straw(2, 12) = 1", "straw(3, 13) = 2",
            "of(0, 0) = 1", "of(1, 0) = 2", "of(2, 0) = 3", "of(0, 2) = 11", "of(1, 2) = 12", "of(2, 2) = 13", "count(0) = 3");
        Edge.holds("2: FULL: 3", "straw(1, 1)", "straw(2, 2)", "straw(3, 3) = 2", "straw(4, 4) = FULL", "count(0) = 3", "of(2, 0) = 3");
        Edge.holds("2: of several the one named first", "3 x straw(1, 1)", "straw(21, 4) = BAD", "straw(4, 1000) = BAD", "straw(20, 999) = FULL");
        Edge.holds("2: what is answered so changes nothing", "straw(21, 0) = BAD", "straw(5, 1000) = BAD", "straw(6, 1) = 0", "straw(-1, 0) = BAD", "straw(7, 1) = 1");
        for (int k = 0; k < 3; k++) {
            Edge.holds("2: what is so at first of straw " + k, k + " x straw(20, 999)", "straw(7, 8) = " + k, "of(" + k + ", 0) = 7", "of(" + k + ", 1) = 3", "of(" + k + ", 2) = 8",
                "of(" + k + ", 3) = 10", "of(" + k + ", 4) = 60", "of(" + k + ", 5) = 0", "of(" + k + ", 6) = -1", "of(" + k + ", 7) = 999");
        }
        Edge.holds("2: a straw is no CHANGE", "straw(1, 1)", "count(2) = 0", "undo() = STATE");
    }

    // promise 3: what is refused
    private static void strawsRefused() {
        String row = "bytes 0: 5 2 100 6 9 0 7 1 50";
        Edge.holds("3: SHELVES 0 .. 5, one less", row, "straws(-1, 0, 1) = BAD");
        Edge.holds("3: SHELVES 0 .. 5, the least", row, "straws(0, 0, 1) = 1");
        Edge.holds("3: SHELVES 0 .. 5, the most", "bytes 5: 5 2 100", "straws(5, 0, 1) = 1", "of(0, 2) = 100");
        Edge.holds("3: SHELVES 0 .. 5, one more", row, "straws(6, 0, 1) = BAD");
        Edge.holds("3: SHELVES far out", row, "straws(" + FAR_BELOW + ", 0, 1) = BAD", "straws(" + FAR_ABOVE + ", 0, 1) = BAD");
        Edge.holds("3: n (1 .. 3), one less", row, "straws(0, 0, 0) = BAD", "count(0) = 0");
        Edge.holds("3: n (1 .. 3), the least", row, "straws(0, 0, 1) = 1", "count(0) = 1");
        Edge.holds("3: n (1 .. 3), two", row, "straws(0, 0, 2) = 2", "count(0) = 2");
        Edge.holds("3: n (1 .. 3), the most", row, "straws(0, 0, 3) = 3", "count(0) = 3");
        Edge.holds("3: n (1 .. 3), one more", row, "straws(0, 0, 4) = BAD", "count(0) = 0");
        Edge.holds("3: n far out", row, "straws(0, 0, " + FAR_BELOW + ") = BAD", "straws(0, 0, " + FAR_ABOVE + ") = BAD", "straws(0, 0, -1) = BAD");
        String[] sorts = {"bytes", "shorts", "ints", "longs", "booleans"};
        for (int sort = 1; sort <= 4; sort++) {
            Edge.holds("3: -12, a ROW of " + sorts[sort], "row(0, " + sort + ", 9)", "9 x put(0, 1, 1)", "straws(0, 0, 3) = KIND", "straws(0, -1, 3) = KIND", "straws(0, 99, 3) = KIND", "count(0) = 0");
            Edge.holds("3: -12, even without elements, a ROW of " + sorts[sort], "row(0, " + sort + ", 0)", "straws(0, 0, 1) = KIND");
        }
        Edge.holds("3: -12, a SIP", "body(0)", "keep(0, 0)", "straws(0, 0, 3) = KIND", "straws(0, -5, 1) = KIND", "count(0) = 0");
        Edge.holds("3: of several the one named first", "row(0, 1, 9)", "straws(0, 0, 4) = BAD", "straws(6, 0, 1) = BAD", "straws(0, 0, 0) = BAD");
        Edge.holds("3: BAD ahead of a row that is missing", "straws(0, 0, 4) = BAD", "straws(0, 0, 0) = BAD", "straws(-1, 0, 1) = BAD", "straws(6, -1, 1) = BAD");
        Edge.holds("3: BAD ahead of STRAWS that are FULL", row, "3 x straw(1, 1)", "straws(0, 0, 4) = BAD", "straws(0, 0, 3) = NONE");
        Edge.holds("3: straws from a row are no CHANGES", row, "straws(0, 0, 3) = 3", "count(2) = 0", "undo() = STATE");
        Edge.holds("3: the row stays", row, "straws(0, 0, 3) = 3", "element(0, 0) = 5", "element(0, 8) = 50");
    }

    // promise 3: where it ends
    private static void strawsEnd() {
        Edge.holds("3: a SHELF that holds nothing is missing", "straws(0, 0, 3) = NONE", "straws(0, -1, 1) = NONE", "straws(0, " + FAR_BELOW + ", 1) = NONE", "straws(0, " + FAR_ABOVE + ", 3) = NONE", "count(0) = 0");
        Edge.holds("3: a SHELF that holds nothing again", "bytes 0: 1 1 1", "keep(0, -1)", "straws(0, 0, 3) = NONE", "count(0) = 0");
        int[] came = {0, 0, 0, 1, 1, 1, 2, 2, 2, 3, 3};
        for (int n = 0; n <= 10; n++) {
            String row = "bytes 2:" + " 4".repeat(n);
            Edge.holds("3: it ends where the row ends (within a three, too), of " + n, row, "straws(2, 0, 3) = " + came[n], "count(0) = " + came[n]);
            Edge.holds("3: no more than n of them, of " + n, row, "straws(2, 0, 1) = " + Math.min(1, came[n]), "count(0) = " + Math.min(1, came[n]));
        }
        String row = "bytes 1: 1 2 3 4 5 6 7 8 9";
        Edge.holds("3: from a place on, by threes STRONG, WIDE, REACH", row, "straws(1, 0, 3) = 3", "of(0, 0) = 1", "of(0, 1) = 2", "of(0, 2) = 3", "of(1, 0) = 4", "of(1, 1) = 5", "of(1, 2) = 6",
            "of(2, 0) = 7", "of(2, 1) = 8", "of(2, 2) = 9");
        Edge.holds("3: from place 1 on", row, "straws(1, 1, 3) = 2", "of(0, 0) = 2", "of(0, 1) = 3", "of(0, 2) = 4", "of(1, 2) = 7");
        Edge.holds("3: from the last three on", row, "straws(1, 6, 3) = 1", "of(0, 0) = 7", "of(0, 2) = 9");
        Edge.holds("3: from within the last three on", row, "straws(1, 7, 3) = NONE", "straws(1, 8, 1) = NONE", "count(0) = 0");
        Edge.holds("3: from the row's end on", row, "straws(1, 9, 1) = NONE", "straws(1, 10, 3) = NONE", "straws(1, 59, 1) = NONE", "straws(1, 60, 1) = NONE");
        Edge.holds("3: from far behind the row's end on", row, "straws(1, " + FAR_ABOVE + ", 3) = NONE", "straws(1, 2147483645, 3) = NONE", "count(0) = 0");
        Edge.holds("3: from ahead of the row on", row, "straws(1, -1, 3) = NONE", "straws(1, -2, 3) = NONE", "straws(1, -3, 3) = NONE", "straws(1, -6, 3) = NONE", "straws(1, " + FAR_BELOW + ", 3) = NONE", "count(0) = 0");
        Edge.holds("3: to the end of the longest row", "row(1, 0, 60)", "put(1, 57, 5)", "put(1, 58, 6)", "put(1, 59, 7)", "straws(1, 57, 3) = 1", "of(0, 2) = 7");
        Edge.holds("3: STRAWS are FULL: those ahead came", row, "straw(1, 1)", "straws(1, 0, 3) = 2", "of(2, 0) = 4", "count(0) = 3");
        Edge.holds("3: STRAWS are FULL but for one", row, "2 x straw(1, 1)", "straws(1, 3, 3) = 1", "of(2, 0) = 4");
        Edge.holds("3: STRAWS are FULL", row, "3 x straw(1, 1)", "straws(1, 0, 3) = NONE", "of(2, 0) = 1", "count(0) = 3");
        Edge.holds("3: the others of a straw as at first", row, "straws(1, 0, 1)", "of(0, 3) = 10", "of(0, 4) = 60", "of(0, 5) = 0", "of(0, 6) = -1", "of(0, 7) = 999");
    }

    // promise 3: one is not so
    private static void strawsNotSo() {
        String good = " 6 3 9 ";
        String[] bad = {"-1 3 9", "21 3 9", "-128 3 9", "127 3 9", "6 0 9", "6 10 9", "6 -1 9", "6 127 9", "6 3 -1", "6 3 128", "6 3 255"};
        for (String three : bad) {
            Edge.holds("3: one is not so: " + three, "bytes 0: " + three, "straws(0, 0, 1) = NONE", "count(0) = 0");
            Edge.holds("3: those ahead came, the second not: " + three, "bytes 0:" + good + three + good.stripTrailing(), "straws(0, 0, 3) = 1", "count(0) = 1");
            Edge.holds("3: those ahead came, the third not: " + three, "bytes 0:" + good + good.trim() + " " + three, "straws(0, 0, 3) = 2", "count(0) = 2");
        }
        String[] so = {"0 1 0", "20 9 127", "0 9 127", "20 1 0", "256 257 256"};
        for (String three : so) {
            String[] n = three.split(" ");
            Edge.holds("3: each is so: " + three, "bytes 0: " + three, "straws(0, 0, 1) = 1", "of(0, 0) = " + (byte) Integer.parseInt(n[0]), "of(0, 1) = " + (byte) Integer.parseInt(n[1]),
                "of(0, 2) = " + (byte) Integer.parseInt(n[2]));
        }
        Edge.holds("3: -12 ahead of one that is not so", "row(0, 2, 3)", "put(0, 0, 21)", "straws(0, 0, 1) = KIND");
    }

    // promise 4: ranges
    private static void mend() {
        for (int what = 0; what < 12; what++) {
            for (int number = 0; number < (what < 8 ? 3 : 1); number++) {
                String there = "3 x straw(7, 8)";
                String of = "of(" + number + ", " + what + ")";
                String call = "mend(" + number + ", " + what + ", ";
                String range = "4: " + NAMES[what] + " (" + LEAST[what] + " .. " + MOST[what] + ") of " + number;
                Edge.holds(range + ", one less", there, call + (LEAST[what] - 1) + ") = VOID", of + " = " + FIRST[what], "count(2) = 0");
                Edge.holds(range + ", the least", there, call + LEAST[what] + ") = " + FIRST[what], of + " = " + LEAST[what], call + FIRST[what] + ") = " + LEAST[what]);
                Edge.holds(range + ", the most", there, call + MOST[what] + ") = " + FIRST[what], of + " = " + MOST[what], call + FIRST[what] + ") = " + MOST[what]);
                Edge.holds(range + ", one more", there, call + (MOST[what] + 1) + ") = VOID", of + " = " + FIRST[what], "count(2) = 0");
                Edge.holds(range + ", far out", there, call + FAR_BELOW + ") = VOID", call + FAR_ABOVE + ") = VOID", of + " = " + FIRST[what]);
                Edge.holds(range + ", as it was", there, call + FIRST[what] + ") = " + FIRST[what], of + " = " + FIRST[what]);
                alone(range, number, what, there, call);
            }
        }
    }

    /** Only the one number becomes another one. */
    private static void alone(String range, int number, int what, String there, String call) {
        int v = FIRST[what] == LEAST[what] ? MOST[what] : LEAST[what];
        java.util.List<String> steps = new java.util.ArrayList<>(java.util.List.of(there, call + v + ")"));
        for (int k = 0; k < 3; k++) {
            for (int w = 0; w < 12; w++) {
                if (w < 8 || k == 0) {
                    steps.add("of(" + k + ", " + w + ") = " + (k == number && w == what ? v : FIRST[w]));
                }
            }
        }
        Edge.holds(range + ", the others stay", steps.toArray(new String[0]));
    }

    // promise 4: refusals
    private static void mendRefused() {
        for (int what = 0; what < 8; what++) {
            String rest = ", " + what + ", " + LEAST[what] + ") = VOID";
            Edge.holds("4: no such STRAW to mend, " + NAMES[what], "mend(0" + rest, "straw(7, 8)", "mend(-1" + rest, "mend(1" + rest, "straw(7, 8)", "mend(2" + rest, "straw(7, 8)", "mend(3" + rest,
                "mend(" + FAR_BELOW + rest, "mend(" + FAR_ABOVE + rest, "count(2) = 0");
        }
        for (int what = 8; what < 12; what++) {
            String rest = ", " + what + ", " + MOST[what] + ")";
            Edge.holds("4: number 0 for these, " + NAMES[what], "3 x straw(7, 8)", "mend(-1" + rest + " = VOID", "mend(1" + rest + " = VOID", "mend(2" + rest + " = VOID", "mend(3" + rest + " = VOID",
                "mend(" + FAR_ABOVE + rest + " = VOID", "of(0, " + what + ") = " + FIRST[what]);
            Edge.holds("4: number 0 for these, without a straw, too, " + NAMES[what], "mend(0" + rest + " = " + FIRST[what], "of(0, " + what + ") = " + MOST[what]);
        }
        Edge.holds("4: what 0 to 11", "straw(7, 8)", "mend(0, -1, 1) = VOID", "mend(0, 12, 1) = VOID", "mend(0, 13, 1) = VOID", "mend(0, 14, 1) = VOID", "mend(0, " + FAR_BELOW + ", 1) = VOID",
            "mend(0, " + FAR_ABOVE + ", 1) = VOID");
        Edge.holds("4: LEVEL, ICE, s are not mended", "mend(0, 12, 5) = VOID", "mend(0, 13, 5) = VOID", "mend(0, 14, 5) = VOID", "of(0, 12) = 200", "of(0, 13) = 0", "of(0, 14) = 0");
        Edge.holds("4: what it was", "straw(7, 8)", "mend(0, 0, 9) = 7", "mend(0, 0, 3) = 9", "mend(0, 0, 3) = 3", "mend(0, 0, 21) = VOID", "mend(0, 0, 4) = 3");
        Edge.holds("4: HOLE: -1: none", "straw(7, 8)", "mend(0, 6, 0) = -1", "mend(0, 6, -1) = 0", "mend(0, 6, -2) = VOID", "of(0, 6) = -1");
    }

    // promise 5
    private static void of() {
        for (int what = 0; what < 8; what++) {
            Edge.holds("5: " + NAMES[what] + " of STRAWS that are there alone", "of(0, " + what + ") = VOID", "straw(7, 8)", "of(0, " + what + ") = " + FIRST[what], "of(-1, " + what + ") = VOID",
                "of(1, " + what + ") = VOID", "2 x straw(7, 8)", "of(2, " + what + ") = " + FIRST[what], "of(3, " + what + ") = VOID", "of(" + FAR_BELOW + ", " + what + ") = VOID",
                "of(" + FAR_ABOVE + ", " + what + ") = VOID");
        }
        for (int what = 8; what <= 14; what++) {
            Edge.holds("5: number 0 for " + what, "of(0, " + what + ") = " + new int[] {1, 0, 1, 0, 200, 0, 0}[what - 8], "3 x straw(7, 8)", "of(1, " + what + ") = VOID", "of(2, " + what + ") = VOID",
                "of(-1, " + what + ") = VOID", "of(3, " + what + ") = VOID", "of(" + FAR_ABOVE + ", " + what + ") = VOID");
        }
        Edge.holds("5: what 0 to 14", "straw(7, 8)", "of(0, -1) = VOID", "of(0, 15) = VOID", "of(0, " + FAR_BELOW + ") = VOID", "of(0, " + FAR_ABOVE + ") = VOID");
        Edge.holds("5: LEVEL 0 .. 999", "fill(0)", "of(0, 12) = 0", "fill(999)", "of(0, 12) = 999");
        Edge.holds("5: ICE 0 .. 99", "of(0, 13) = 0", "ice(99)", "of(0, 13) = 99");
        Edge.holds("5: s, how many have passed since it was FILLED", "second()", "of(0, 14) = 1", "second()", "of(0, 14) = 2", "fill(5)", "of(0, 14) = 0");
    }
}
