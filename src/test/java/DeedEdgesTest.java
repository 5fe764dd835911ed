import java.util.ArrayList;
import java.util.List;

/** The edges of promises 25 to 32: drinking in deed, what is led, an image, changes undone and done again. */
public final class DeedEdgesTest {
    private static final String FAR_BELOW = "-2147483648";
    private static final String FAR_ABOVE = "2147483647";
    private static final int[] LEAST = {0, 1, 0, 1, 1, 0, -1, 0, 0, 0, 0, 0};
    private static final int[] MOST = {20, 9, 999, 99, 60, 60, 999, 999, 9, 999, 9, 12};
    private static final int[] FIRST = {7, 3, 8, 10, 60, 0, -1, 999, 1, 0, 1, 0};

    public static void main(String[] args) {
        second();
        fill();
        ice();
        led();
        image();
        undo();
        redo();
        forty();
        eachNumber();
        Edge.end();
    }

    // promise 25
    private static void second() {
        Edge.holds("25: nobody is there", "second() = 200", "second() = 200", "of(0, 14) = 2", "led(0, 3) = 2");
        Edge.holds("25: LEVEL", "straw(10, 0)", "second() = 190", "second() = 180", "of(0, 12) = 180");
        Edge.holds("25: LEVEL 0", "straw(10, 0)", "fill(5)", "second() = 0", "second() = 0", "led(0, 0) = 5", "led(0, 2) = 1");
        Edge.holds("25: LEVEL 999", "fill(999)", "ice(5)", "second() = 999", "of(0, 13) = 5", "straw(3, 0)", "second() = 997", "of(0, 13) = 4");
        Edge.holds("25: the ice melts", "ice(2)", "second() = 201", "of(0, 13) = 1", "second() = 202", "of(0, 13) = 0", "second() = 202");
        Edge.holds("25: s, how many have passed since it was FILLED", "7 x second()", "of(0, 14) = 7", "fill(3)", "of(0, 14) = 0", "second()", "of(0, 14) = 1");
        Edge.holds("25: as many as calls are promised", "straw(1, 0)", "508 x second()", "of(0, 14) = 508", "led(0, 3) = 508");
        Edge.holds("25: STOPS by s", "straw(10, 0)", "mend(0, 7, 2)", "second() = 190", "second() = 180", "second() = 180", "led(0, 0) = 20");
        Edge.holds("25: EVERY, RESTS by s", "straw(10, 0)", "mend(0, 4, 1)", "mend(0, 5, 1)", "second() = 190", "second() = 190", "second() = 180", "second() = 180");
        Edge.holds("25: without HICCUPS", "straw(10, 0)", "mend(0, 11, 12)", "second() = 190");
        Edge.holds("25: t goes on", "straw(1, 0)", "law t", "second() = 200", "second() = 199", "second() = 197");
        Edge.holds("25: a deed is no CHANGE", "straw(1, 0)", "second()", "fill(7)", "ice(3)", "image()", "back()", "count(2) = 0", "undo() = STATE");
        Edge.holds("25: a second is what one second in thought would be", "straw(10, 0)", "straw(7, 190)", "mend(0, 6, 999)", "ice(9)", "level(1, 0) = 189", "glass(1, 0, 0) = 5", "glass(1, 1, 0) = 7", "second() = 189", "led(0, 0) = 5", "led(1, 0) = 7");
    }

    // promise 26
    private static void fill() {
        Edge.holds("26: LEVEL (0 .. 999), one less", "fill(-1) = BAD", "of(0, 12) = 200", "led(0, 4) = 0");
        Edge.holds("26: LEVEL (0 .. 999), the least", "fill(0) = 200", "of(0, 12) = 0", "led(0, 4) = 1");
        Edge.holds("26: LEVEL (0 .. 999), the most", "fill(999) = 200", "of(0, 12) = 999", "led(0, 4) = 1");
        Edge.holds("26: LEVEL (0 .. 999), one more", "fill(1000) = BAD", "of(0, 12) = 200", "led(0, 4) = 0");
        Edge.holds("26: far out", "fill(" + FAR_BELOW + ") = BAD", "fill(" + FAR_ABOVE + ") = BAD");
        Edge.holds("26: what LEVEL was", "fill(5) = 200", "fill(5) = 5", "fill(6) = 5", "fill(1000) = BAD", "fill(7) = 6", "led(0, 4) = 4");
        Edge.holds("26: s is 0", "3 x second()", "fill(9)", "of(0, 14) = 0");
        Edge.holds("26: a refused one leaves s", "3 x second()", "fill(-1) = BAD", "fill(1000) = BAD", "of(0, 14) = 3");
        Edge.holds("26: all t are 0", "3 x straw(1, 0)", "3 x second()", "law t+1", "glass(1, 0, 0) = 4", "glass(1, 2, 0) = 4", "fill(99)", "glass(1, 0, 0) = 1", "glass(1, 1, 0) = 1", "glass(1, 2, 0) = 1");
        Edge.holds("26: GOT stays", "straw(10, 195)", "mend(0, 9, 999)", "3 x second()", "fill(99)", "led(0, 0) = 5", "led(0, 1) = 10", "led(0, 2) = 2", "led(0, 3) = 3");
        Edge.holds("26: ICE stays", "ice(9)", "fill(99)", "of(0, 13) = 9");
    }

    // promise 27
    private static void ice() {
        Edge.holds("27: v ICE more (1 .. 99), one less", "ice(0) = BAD", "of(0, 13) = 0");
        Edge.holds("27: v ICE more (1 .. 99), the least", "ice(1) = 1", "of(0, 13) = 1");
        Edge.holds("27: v ICE more (1 .. 99), the most", "ice(99) = 99", "of(0, 13) = 99");
        Edge.holds("27: v ICE more (1 .. 99), one more", "ice(100) = BAD", "of(0, 13) = 0");
        Edge.holds("27: far out", "ice(-1) = BAD", "ice(" + FAR_BELOW + ") = BAD", "ice(" + FAR_ABOVE + ") = BAD");
        Edge.holds("27: it would be just 99", "ice(50) = 50", "ice(49) = 99");
        Edge.holds("27: it would be more than 99, by one", "ice(50)", "ice(50) = STATE", "of(0, 13) = 50", "ice(49) = 99", "ice(1) = STATE", "of(0, 13) = 99");
        Edge.holds("27: it would be more than 99, by most", "ice(99)", "ice(99) = STATE", "of(0, 13) = 99");
        Edge.holds("27: BAD ahead of STATE", "ice(99)", "ice(0) = BAD", "ice(100) = BAD", "ice(" + FAR_ABOVE + ") = BAD");
        Edge.holds("27: room again when it has melted", "ice(99)", "second()", "ice(2) = STATE", "ice(1) = 99");
    }

    // promise 28
    private static void led() {
        Edge.holds("28: STRAWS that are there", "led(0, 0) = BAD", "led(0, 1) = BAD", "led(0, 2) = BAD", "straw(1, 0)", "led(-1, 0) = BAD", "led(0, 0) = 0", "led(1, 0) = BAD", "led(1, 1) = BAD", "led(1, 2) = BAD", "2 x straw(1, 0)", "led(2, 2) = 0",
            "led(3, 0) = BAD", "led(3, 2) = BAD", "led(" + FAR_BELOW + ", 0) = BAD", "led(" + FAR_ABOVE + ", 0) = BAD");
        Edge.holds("28: GOT (what 0), SWEET (1), NOISES (2), seconds (3), FILLS (4)", "straw(10, 195)", "mend(0, 9, 196)", "3 x second()", "led(0, -1) = BAD", "led(0, 0) = 5", "led(0, 1) = 10", "led(0, 2) = 2", "led(0, 3) = 3", "led(0, 4) = 0", "led(0, 5) = BAD",
            "led(0, " + FAR_BELOW + ") = BAD", "led(0, " + FAR_ABOVE + ") = BAD");
        Edge.holds("28: seconds and FILLS: number 0", "led(0, 3) = 0", "led(0, 4) = 0", "led(1, 3) = BAD", "led(1, 4) = BAD", "3 x straw(1, 0)", "led(1, 3) = BAD", "led(2, 4) = BAD", "led(-1, 3) = BAD", "led(-1, 4) = BAD", "led(" + FAR_ABOVE + ", 4) = BAD");
        Edge.holds("28: seconds in all, FILLS in all", "3 x second()", "fill(1)", "fill(1)", "2 x second()", "led(0, 3) = 5", "led(0, 4) = 2", "of(0, 14) = 2");
        Edge.holds("28: SWEET as it was drunk", "straw(1, 0)", "mend(0, 9, 1)", "second()", "led(0, 1) = 2", "mend(0, 10, 9)", "led(0, 1) = 2", "second()", "led(0, 1) = 12", "mend(0, 9, 0)", "second()", "led(0, 1) = 13", "led(0, 0) = 3");
        Edge.holds("28: of each alone", "straw(1, 0)", "straw(2, 0)", "straw(4, 200)", "2 x second()", "led(0, 0) = 2", "led(1, 0) = 4", "led(2, 0) = 0", "led(0, 2) = 0", "led(2, 2) = 2");
        Edge.holds("28: a straw that came later", "straw(1, 0)", "2 x second()", "straw(2, 0)", "led(1, 0) = 0", "second()", "led(1, 0) = 2", "led(0, 0) = 3");
    }

    // promises 29 and 30
    private static void image() {
        Edge.holds("30: there is none", "back() = STATE", "second()", "fill(9)", "back() = STATE", "of(0, 12) = 9");
        Edge.holds("29: LEVEL", "image() = 200", "fill(0)", "image() = 0", "fill(999)", "image() = 999");
        Edge.holds("30: LEVEL", "image()", "fill(0)", "back() = 200", "fill(999)", "image()", "fill(1)", "back() = 999", "fill(0)", "image()", "fill(1)", "back() = 0");
        Edge.holds("30: ICE, s", "ice(9)", "second()", "image()", "ice(40)", "3 x second()", "back() = 201", "of(0, 13) = 8", "of(0, 14) = 1");
        Edge.holds("30: all t", "3 x straw(1, 0)", "2 x second()", "image()", "3 x second()", "law t+1", "glass(1, 0, 0) = 6", "back()", "glass(1, 0, 0) = 3", "glass(1, 1, 0) = 3", "glass(1, 2, 0) = 3");
        Edge.holds("30: what LED tells", "straw(10, 0)", "straw(10, 200)", "mend(0, 9, 1)", "second()", "fill(200)", "image()", "2 x second()", "fill(200)", "back()", "led(0, 0) = 10", "led(0, 1) = 20", "led(0, 2) = 0", "led(1, 0) = 0", "led(1, 2) = 1",
            "led(0, 3) = 1", "led(0, 4) = 1");
        Edge.holds("30: STRAWS that came since: t, what LED tells 0", "image()", "straw(10, 0)", "straw(10, 200)", "mend(0, 9, 1)", "2 x second()", "back() = 200", "count(0) = 2", "led(0, 0) = 0", "led(0, 1) = 0", "led(1, 2) = 0", "law t+1",
            "glass(1, 0, 0) = 1", "mend(1, 2, 0)", "glass(1, 1, 0) = 1");
        Edge.holds("30: one STRAW was there, one came since", "straw(10, 0)", "second()", "image()", "straw(5, 0)", "second()", "back() = 190", "led(0, 0) = 10", "led(1, 0) = 0", "law t+1", "glass(1, 0, 0) = 2", "glass(1, 1, 0) = 1");
        Edge.holds("30: numbers, CHANGES, THE LAW, STRAWS are none of it", "straw(10, 0)", "image()", "mend(0, 0, 3)", "mend(0, 8, 5)", "straw(7, 0)", "law 4", "back()", "of(0, 0) = 3", "of(0, 8) = 5", "count(0) = 2", "count(2) = 2", "wants(0, 0, 0) = 4",
            "undo() = 1", "of(0, 8) = 1");
        Edge.holds("30: shelves and bodies are none of it", "image()", "row(0, 0, 1)", "body(0)", "tape p", "back()", "element(0, 0) = 0", "count(3) = 1", "count(1) = 1");
        Edge.holds("30: it is laid back as often as one wants", "image()", "fill(1)", "back() = 200", "fill(2)", "back() = 200", "back() = 200");
        Edge.holds("29: the latest one is kept", "image()", "fill(1)", "image() = 1", "fill(2)", "back() = 1");
        Edge.holds("29: it is no CHANGE, nor a deed", "ice(3)", "image() = 200", "count(2) = 0", "led(0, 3) = 0", "led(0, 4) = 0", "of(0, 13) = 3");
    }

    // promise 31
    private static void undo() {
        Edge.holds("31: none", "undo() = STATE", "straw(5, 0)", "undo() = STATE", "of(0, 0) = 5");
        Edge.holds("31: the latest first, how many may still be", "straw(5, 0)", "mend(0, 0, 6)", "mend(0, 1, 7)", "mend(0, 8, 8)", "count(2) = 3", "undo() = 2", "of(0, 8) = 1", "of(0, 1) = 7", "undo() = 1", "of(0, 1) = 3", "of(0, 0) = 6",
            "undo() = 0", "of(0, 0) = 5", "undo() = STATE", "count(2) = 0");
        Edge.holds("31: telling the same number is none", "straw(5, 0)", "mend(0, 0, 5) = 5", "mend(0, 8, 1) = 1", "mend(0, 6, -1) = -1", "count(2) = 0", "undo() = STATE", "mend(0, 0, 6)", "mend(0, 0, 6) = 6", "count(2) = 1", "undo() = 0", "of(0, 0) = 5");
        Edge.holds("31: telling what it was before is one", "straw(5, 0)", "mend(0, 0, 6)", "mend(0, 0, 5)", "count(2) = 2", "undo() = 1", "of(0, 0) = 6", "undo() = 0", "of(0, 0) = 5");
        Edge.holds("31: what was refused is none", "straw(5, 0)", "mend(0, 0, 21) = VOID", "mend(1, 0, 5) = VOID", "mend(0, 12, 5) = VOID", "count(2) = 0", "undo() = STATE");
        Edge.holds("31: deeds are none", "straw(5, 0)", "mend(0, 0, 6)", "second()", "fill(9)", "ice(9)", "count(2) = 1", "undo() = 0", "of(0, 0) = 5", "of(0, 12) = 9", "of(0, 13) = 9", "led(0, 0) = 6");
        Edge.holds("31: thoughts are none", "2 x straw(5, 0)", "reachFor(0, 9, 0)", "slow(0, 9)", "both(9, 0)", "holeFor(0, 9, 9)", "stopFor(0)", "rings 0: 1", "since(0, 0)", "count(2) = 0");
    }

    // promise 32
    private static void redo() {
        Edge.holds("32: none", "redo() = STATE", "straw(5, 0)", "mend(0, 0, 6)", "redo() = STATE", "of(0, 0) = 6");
        Edge.holds("32: how many may still be", "straw(5, 0)", "mend(0, 0, 6)", "mend(0, 0, 7)", "mend(0, 0, 8)", "3 x undo()", "redo() = 2", "of(0, 0) = 6", "redo() = 1", "of(0, 0) = 7", "redo() = 0", "of(0, 0) = 8", "redo() = STATE", "count(2) = 3");
        Edge.holds("32: as long as no other came behind", "straw(5, 0)", "mend(0, 0, 6)", "mend(0, 0, 7)", "2 x undo()", "mend(0, 1, 4)", "redo() = STATE", "of(0, 0) = 5", "undo() = 0", "redo() = 0", "of(0, 1) = 4", "redo() = STATE");
        Edge.holds("32: another one came behind the first of two", "straw(5, 0)", "mend(0, 0, 6)", "mend(0, 0, 7)", "undo()", "mend(0, 0, 9)", "redo() = STATE", "count(2) = 2", "undo() = 1", "of(0, 0) = 6", "redo() = 0", "of(0, 0) = 9");
        Edge.holds("32: the same number leaves them", "straw(5, 0)", "mend(0, 0, 6)", "undo()", "mend(0, 0, 5) = 5", "redo() = 0", "of(0, 0) = 6");
        Edge.holds("32: what is refused leaves them", "straw(5, 0)", "mend(0, 0, 6)", "undo()", "mend(0, 0, 21) = VOID", "mend(3, 0, 6) = VOID", "redo() = 0", "of(0, 0) = 6");
        Edge.holds("32: deeds leave them", "straw(5, 0)", "mend(0, 0, 6)", "undo()", "second()", "fill(5)", "ice(5)", "image()", "back()", "straw(1, 1)", "law 5", "redo() = 0", "of(0, 0) = 6");
        Edge.holds("32: thoughts leave them", "2 x straw(5, 0)", "mend(0, 0, 6)", "undo()", "reachFor(0, 9, 0)", "slow(0, 9)", "both(9, 1)", "holeFor(0, 9, 9)", "redo() = 0", "of(0, 0) = 6");
        Edge.holds("32: there and back", "straw(5, 0)", "mend(0, 0, 6)", "undo() = 0", "redo() = 0", "undo() = 0", "redo() = 0", "redo() = STATE", "undo() = 0", "undo() = STATE", "of(0, 0) = 5");
    }

    private static String[] changes(int n) {
        List<String> steps = new ArrayList<>(List.of("straw(5, 0)"));
        for (int i = 1; i <= n; i++) {
            steps.add("mend(0, 2, " + i + ") = " + (i - 1));
        }
        return steps.toArray(new String[0]);
    }

    private static void behind(String sentence, int n, String... steps) {
        List<String> all = new ArrayList<>(List.of(changes(n)));
        all.addAll(List.of(steps));
        Edge.holds(sentence, all.toArray(new String[0]));
    }

    // promises 31 and 32: 40 at most are kept
    private static void forty() {
        behind("31: 40 at most are kept: 39", 39, "count(2) = 39", "undo() = 38", "38 x undo() = 0", "of(0, 2) = 0", "undo() = STATE");
        behind("31: 40 at most are kept: 40", 40, "count(2) = 40", "undo() = 39", "39 x undo() = 0", "of(0, 2) = 0", "undo() = STATE");
        behind("31: 40 at most are kept: 41", 41, "count(2) = 40", "undo() = 39", "of(0, 2) = 40", "38 x undo() = 1", "of(0, 2) = 2", "undo() = 0", "of(0, 2) = 1", "undo() = STATE", "of(0, 2) = 1");
        behind("31: 40 at most are kept: 100", 100, "count(2) = 40", "40 x undo() = 0", "of(0, 2) = 60", "undo() = STATE");
        behind("32: all 40 are done again", 41, "40 x undo()", "redo() = 39", "of(0, 2) = 2", "39 x redo() = 0", "of(0, 2) = 41", "redo() = STATE", "count(2) = 40");
        behind("32: each of 40 is done again", 42, "40 x undo()", "37 x redo()", "of(0, 2) = 39", "redo() = 2", "of(0, 2) = 40", "redo() = 1", "of(0, 2) = 41", "redo() = 0", "of(0, 2) = 42");
        behind("32: one is undone and another one comes", 40, "undo() = 39", "mend(0, 0, 9)", "count(2) = 40", "redo() = STATE", "40 x undo() = 0", "of(0, 2) = 0", "of(0, 0) = 5");
        behind("32: one is undone, two others come", 40, "undo() = 39", "mend(0, 0, 9)", "mend(0, 0, 8)", "count(2) = 40", "40 x undo() = 0", "of(0, 2) = 1", "of(0, 0) = 5");
        behind("31: the same number pushes none out", 40, "mend(0, 2, 40) = 40", "count(2) = 40", "40 x undo() = 0", "of(0, 2) = 0");
        behind("31: what is refused pushes none out", 40, "mend(0, 2, 1000) = VOID", "count(2) = 40", "40 x undo() = 0", "of(0, 2) = 0");
    }

    // promises 31 and 32: all numbers of STRAWS; MELTS, SUGARED, SUGAR, HICCUPS
    private static void eachNumber() {
        for (int what = 0; what < 12; what++) {
            for (int number = 0; number < (what < 8 ? 3 : 1); number++) {
                int v = FIRST[what] == LEAST[what] ? MOST[what] : LEAST[what];
                String of = "of(" + number + ", " + what + ")";
                Edge.holds("31, 32: what " + what + " of " + number, "3 x straw(7, 8)", "mend(" + number + ", " + what + ", " + v + ")", "undo() = 0", of + " = " + FIRST[what], "redo() = 0", of + " = " + v, "undo() = 0", of + " = " + FIRST[what]);
            }
        }
    }
}
