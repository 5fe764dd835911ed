import java.util.ArrayList;
import java.util.List;

/** "What is answered so changes nothing": each refusal of each call, on objects with something of everything; Edge looks at what it left. */
public final class RefusalEdgesTest {
    /** Something of everything, and something to be done again. */
    private static final String[] BUSY = {"straw(10, 0)", "straw(7, 30)", "mend(0, 4, 5)", "mend(0, 5, 2)", "mend(1, 6, 120)", "mend(0, 9, 20)", "mend(0, 10, 3)", "mend(0, 11, 4)", "mend(0, 0, 9)", "ice(20)", "law p+w-t/4;1", "2 x second()", "image()",
        "second()", "fill(150)", "second()", "2 x undo()", "tape p+", "body(7)", "body(3)", "body(5)", "act(0, 3, 5)", "bytes 0: 6 3 9 4 5", "rings 1: 140 130", "row(2, 3, 4)", "put(2, 1, 99)", "keep(3, 1)", "row(4, 4, 2)", "put(4, 1, 1)"};

    /** As full as it may be. */
    private static final String[] BRIMFUL = {"3 x straw(5, 9)", "41 x mend(0, 0, 20)", "fill(999)", "ice(99)", "50 x body(6)", "119 x feed(49)", "feed(40)", "row(0, 0, 60)", "row(1, 1, 60)", "row(2, 2, 60)", "row(3, 3, 60)", "row(4, 4, 60)", "keep(5, 49)"};

    private static final String[] REFUSED_BUSY = {
        "straw(21, 0) = BAD", "straw(-1, 0) = BAD", "straw(0, 1000) = BAD", "straw(0, -1) = BAD",
        "straws(6, 0, 1) = BAD", "straws(-1, 0, 1) = BAD", "straws(0, 0, 0) = BAD", "straws(0, 0, 4) = BAD", "straws(1, 0, 1) = KIND", "straws(2, 0, 1) = KIND", "straws(3, 0, 1) = KIND", "straws(4, 0, 1) = KIND", "straws(5, 0, 1) = NONE", "straws(0, 3, 1) = NONE",
        "straws(0, -1, 1) = NONE", "straws(0, 60, 3) = NONE",
        "mend(2, 0, 5) = VOID", "mend(-1, 0, 5) = VOID", "mend(0, 0, 21) = VOID", "mend(0, 1, 0) = VOID", "mend(0, 2, 1000) = VOID", "mend(0, 3, 0) = VOID", "mend(0, 4, 61) = VOID", "mend(0, 5, 61) = VOID", "mend(0, 6, -2) = VOID", "mend(0, 7, -1) = VOID",
        "mend(0, 8, 10) = VOID", "mend(0, 9, 1000) = VOID", "mend(0, 10, 10) = VOID", "mend(0, 11, 13) = VOID", "mend(1, 8, 5) = VOID", "mend(1, 11, 5) = VOID", "mend(0, 12, 5) = VOID", "mend(0, 13, 5) = VOID", "mend(0, 14, 5) = VOID", "mend(0, -1, 5) = VOID",
        "of(2, 0) = VOID", "of(-1, 0) = VOID", "of(1, 8) = VOID", "of(1, 12) = VOID", "of(0, 15) = VOID", "of(0, -1) = VOID",
        "feed(-1) = BAD", "feed(256) = BAD",
        "wants(2, 0, 0) = BAD", "wants(0, 1000, 0) = BAD", "wants(0, 0, 1000) = BAD", "wants(0, -1, 0) = BAD", "wants(0, 0, -1) = BAD",
        "glass(1000, 0, 0) = BAD", "glass(-1, 0, 0) = BAD", "glass(1, 2, 0) = BAD", "glass(1, 0, 3) = BAD",
        "level(1000, 0) = BAD", "level(-1, 0) = BAD", "level(1, 2) = BAD",
        "more(1000, 0) = BAD", "more(-1, 0) = BAD", "more(1, 2) = BAD",
        "turns(1000, 10, 0) = BAD", "turns(1, 9, 0) = BAD", "turns(1, 610, 0) = BAD", "turns(1, 12, 0) = BAD", "turns(1, 10, 2) = BAD", "turns(1, -10, 0) = BAD",
        "mark(0) = BAD", "mark(2) = BAD", "mark(11) = BAD", "mark(-1) = BAD", "mark(100) = BAD",
        "halves(0, 0) = BAD", "halves(2, 0) = BAD", "halves(1, 3) = BAD", "halves(1, -1) = BAD",
        "reachFor(2, 1, 0) = BAD", "reachFor(0, 61, 0) = BAD", "reachFor(0, -1, 0) = BAD", "reachFor(0, 1, 4) = BAD",
        "slow(2, 1) = BAD", "slow(0, 61) = BAD", "slow(0, -1) = BAD",
        "both(61, 0) = BAD", "both(-1, 0) = BAD", "both(1, 2) = BAD",
        "holeFor(2, 1, 1) = VOID", "holeFor(0, 1000, 1) = VOID", "holeFor(0, -1, 1) = VOID", "holeFor(0, 1, 61) = VOID", "holeFor(0, 1, -1) = VOID",
        "stopFor(2) = BAD", "stopFor(-1) = BAD",
        "judge(6) = BAD", "judge(5) = NOTHING", "judge(0) = KIND", "judge(3) = KIND",
        "who(6, 0) = BAD", "who(1, 2) = BAD", "who(5, 0) = NOTHING", "who(2, 1) = KIND", "who(1, 1) = NOT",
        "since(6, 0) = BAD", "since(1, 2) = BAD", "since(5, 0) = NOTHING", "since(4, 0) = KIND", "since(1, 0) = NOT",
        "drawn(1, 0, 0) = BAD", "drawn(1, 21, 0) = BAD", "drawn(1, 1, 2) = BAD", "drawn(1, 1, -2) = BAD",
        "fill(1000) = BAD", "fill(-1) = BAD",
        "ice(0) = BAD", "ice(100) = BAD", "ice(85) = STATE", "ice(99) = STATE",
        "led(2, 0) = BAD", "led(0, 5) = BAD", "led(1, 3) = BAD", "led(1, 4) = BAD", "led(-1, 0) = BAD",
        "body(-1) = BAD", "body(8) = BAD",
        "trace(-1) = BAD", "trace(14) = BAD", "trace(24) = BAD",
        "keep(6, 0) = BAD", "keep(-1, -1) = BAD", "keep(3, 3) = BAD", "keep(0, -2) = BAD", "keep(5, 50) = BAD",
        "row(6, 0, 1) = BAD", "row(-1, 0, 1) = BAD", "row(0, 5, 1) = BAD", "row(0, -1, 1) = BAD", "row(0, 0, 61) = BAD", "row(0, 0, -1) = SIZE", "row(3, 0, -1) = SIZE", "row(5, 0, -1) = SIZE",
        "put(6, 0, 1) = BAD", "put(5, 0, 1) = NOTHING", "put(3, 0, 1) = KIND", "put(2, 4, 1) = PLACE", "put(2, -1, 1) = PLACE", "put(0, 5, 1) = PLACE",
        "element(6, 0) = MIN", "element(5, 0) = MIN", "element(3, 0) = MIN", "element(2, 4) = MIN", "element(2, -1) = MIN",
        "shift(6, 0, 0, 0, 1) = BAD", "shift(0, 0, -1, 0, 1) = BAD", "shift(5, 0, 0, 0, 1) = NOTHING", "shift(0, 0, 5, 0, 1) = NOTHING", "shift(3, 0, 0, 0, 1) = KIND", "shift(0, 0, 3, 0, 1) = KIND", "shift(0, 0, 1, 0, 1) = KIND", "shift(2, 0, 2, 1, 4) = PLACE",
        "shift(2, 1, 2, 0, 4) = PLACE", "shift(2, -1, 2, 0, 1) = PLACE", "shift(2, 0, 2, -1, 1) = PLACE", "shift(2, 1, 2, 0, -1) = PLACE",
        "taken(6, 0) = BAD", "taken(3, 8) = BAD", "taken(3, -1) = BAD", "taken(5, 0) = NOTHING", "taken(0, 0) = KIND", "taken(3, 1) = KIND",
        "count(-1) = BAD", "count(5) = BAD"};

    private static final String[] REFUSED_BRIMFUL = {
        "straw(1, 1) = FULL", "straw(21, 1) = BAD", "straws(0, 0, 1) = NONE", "straws(0, 0, 4) = BAD", "feed(112) = FULL", "feed(256) = BAD", "body(0) = FULL", "body(8) = BAD", "ice(1) = STATE", "ice(99) = STATE", "ice(100) = BAD", "fill(1000) = BAD",
        "back() = STATE", "redo() = STATE", "keep(5, 50) = BAD", "row(5, 0, 61) = BAD", "row(5, 0, -1) = SIZE", "put(3, 60, 1) = PLACE", "put(5, 60, 1) = KIND", "shift(3, 0, 3, 1, 60) = PLACE", "shift(0, 0, 1, 0, 60) = KIND", "mend(0, 0, 21) = VOID"};

    private static final String[] REFUSED_NEW = {
        "back() = STATE", "undo() = STATE", "redo() = STATE", "both(1, 0) = STATE", "both(1, 1) = STATE", "both(61, 0) = BAD", "more(1, 0) = NOT", "more(1, 2) = BAD", "mend(0, 0, 1) = VOID", "of(0, 0) = VOID", "wants(0, 0, 0) = BAD", "glass(0, 0, 0) = BAD",
        "turns(0, 10, 0) = BAD", "mark(1) = BAD", "halves(1, 0) = BAD", "reachFor(0, 0, 0) = BAD", "slow(0, 0) = BAD", "holeFor(0, 0, 0) = VOID", "stopFor(0) = BAD", "judge(0) = NOTHING", "who(0, 0) = NOTHING", "since(0, 0) = BAD", "drawn(1, 1, 0) = BAD",
        "led(0, 0) = BAD", "trace(0) = BAD", "keep(0, 0) = BAD", "put(0, 0, 1) = NOTHING", "element(0, 0) = MIN", "shift(0, 0, 1, 0, 0) = NOTHING", "taken(0, 0) = NOTHING", "straws(0, 0, 1) = NONE", "row(0, 0, -1) = SIZE", "row(0, 0, 61) = BAD"};

    public static void main(String[] args) {
        each("an object with something of everything", BUSY, REFUSED_BUSY);
        each("an object that is brimful", BRIMFUL, REFUSED_BRIMFUL);
        each("a new object", new String[0], REFUSED_NEW);
        Edge.holds("law() with a FAULT changes THE TAPE alone", more(BUSY, "law() = -102", "count(1) = 0", "wants(0, 100, 8) = 11"));
        Edge.holds("law() of a brimful TAPE", more(BRIMFUL, "law() = -104", "count(1) = 0", "feed(1) = 1"));
        all("one behind the other", BUSY, REFUSED_BUSY, 150, 1);
        all("one behind the other, the last one first", BUSY, REFUSED_BUSY, 150, -1);
        Edge.end();
    }

    private static String[] more(String[] steps, String... others) {
        List<String> all = new ArrayList<>(List.of(steps));
        all.addAll(List.of(others));
        return all.toArray(new String[0]);
    }

    /** Each on an object of its own. */
    private static void each(String sentence, String[] there, String[] refused) {
        for (String call : refused) {
            Edge.holds(sentence + ": what is answered so changes nothing: " + call, more(there, call));
        }
    }

    /** All on one object: the answers stay the same ones, and so does the object. */
    private static void all(String sentence, String[] there, String[] refused, int most, int way) {
        List<String> calls = new ArrayList<>();
        for (int i = 0; i < Math.min(most, refused.length); i++) {
            calls.add(refused[way > 0 ? i : refused.length - 1 - i]);
        }
        Edge.holds(sentence, more(there, calls.toArray(new String[0])));
    }
}
