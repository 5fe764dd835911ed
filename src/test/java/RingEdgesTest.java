/** The edges of promises 21 to 24: rings read back, glasses by draws. */
public final class RingEdgesTest {
    private static final String FAR_BELOW = "-2147483648";
    private static final String FAR_ABOVE = "2147483647";

    public static void main(String[] args) {
        refused();
        judge();
        who();
        since();
        drawnRefused();
        drawn();
        hiccups();
        seeds();
        Edge.end();
    }

    // promises 21 to 23: what is refused
    private static void refused() {
        String[] calls = {"judge(#)", "who(#, 0)", "who(#, 1)", "since(#, 0)"};
        for (String call : calls) {
            String sentence = "21 to 23: " + call;
            Edge.holds(sentence + ", SHELVES 0 .. 5", "straw(10, 0)", at(call, -1) + " = BAD", at(call, 6) + " = BAD", at(call, Integer.MIN_VALUE) + " = BAD", at(call, Integer.MAX_VALUE) + " = BAD");
            for (int shelf = 0; shelf <= 5; shelf++) {
                Edge.holds(sentence + ", -11 there, -12 no ROW of shorts", "straw(10, 0)", at(call, shelf) + " = NOTHING", "row(" + shelf + ", 0, 3)", at(call, shelf) + " = KIND", "row(" + shelf + ", 2, 0)", at(call, shelf) + " = KIND",
                    "row(" + shelf + ", 3, 60)", at(call, shelf) + " = KIND", "row(" + shelf + ", 4, 1)", at(call, shelf) + " = KIND", "body(0)", "keep(" + shelf + ", 0)", at(call, shelf) + " = KIND", "keep(" + shelf + ", -1)",
                    at(call, shelf) + " = NOTHING", "rings " + shelf + ": 190", at(call, shelf));
            }
        }
        Edge.holds("22: how many sets (what 0), the least (1)", "row(0, 1, 0)", "who(0, -1) = BAD", "who(0, 0) = 1", "who(0, 1) = 0", "who(0, 2) = BAD", "who(0, " + FAR_BELOW + ") = BAD", "who(0, " + FAR_ABOVE + ") = BAD");
        Edge.holds("22: BAD ahead of -11 and -12", "who(0, 2) = BAD", "who(0, -1) = BAD", "row(0, 0, 3)", "who(0, 2) = BAD", "who(6, 0) = BAD");
        Edge.holds("23: STRAWS that are there", "row(0, 1, 0)", "since(0, 0) = BAD", "straw(10, 0)", "since(0, -1) = BAD", "since(0, 0) = 0", "since(0, 1) = BAD", "2 x straw(1, 1)", "since(0, 2) = 0", "since(0, 3) = BAD",
            "since(0, " + FAR_BELOW + ") = BAD", "since(0, " + FAR_ABOVE + ") = BAD");
        Edge.holds("23: BAD ahead of -11 and -12", "since(0, 0) = BAD", "row(0, 0, 3)", "since(0, 0) = BAD", "straw(1, 0)", "since(0, 1) = BAD", "since(0, 0) = KIND", "since(6, 0) = BAD", "since(1, 0) = NOTHING");
    }

    private static String at(String call, int shelf) {
        return call.replace("#", "" + shelf);
    }

    // promise 21
    private static void judge() {
        Edge.holds("21: no RINGS", "straw(10, 0)", "rings 0:", "judge(0) = NOT");
        Edge.holds("21: the first that is not so: the first", "straw(10, 0)", "rings 0: 191 180", "judge(0) = 0", "rings 0: 189 180", "judge(0) = 0", "rings 0: 200 190", "judge(0) = 0");
        Edge.holds("21: the first that is not so: the second", "straw(10, 0)", "rings 0: 190 181", "judge(0) = 1", "rings 0: 190 180", "judge(0) = NOT");
        Edge.holds("21: the first of several", "straw(10, 0)", "rings 0: 190 5 5 160", "judge(0) = 1");
        Edge.holds("21: 60 RINGS, the last one", "rings 3:" + " 200".repeat(60), "judge(3) = NOT", "put(3, 59, 199)", "judge(3) = 59", "put(3, 59, 200)", "judge(3) = NOT");
        Edge.holds("21: shorts keep their lowest bits", "straw(10, 0)", "rings 0: 65726", "judge(0) = NOT", "rings 0: -65346", "judge(0) = NOT", "rings 0: -190", "judge(0) = 0", "rings 0: 32958", "judge(0) = 0");
        Edge.holds("21: LEVEL 0, LEVEL 999", "fill(0)", "rings 0: 0 0", "judge(0) = NOT", "fill(999)", "rings 0: 999 999", "judge(0) = NOT", "rings 0: 999 1000", "judge(0) = 1");
        Edge.holds("21: from now on", "straw(10, 0)", "rings 0: 190 180", "second()", "judge(0) = 0", "rings 0: 180 170", "judge(0) = NOT");
        Edge.holds("21: as seconds ended: the ice has melted", "straw(10, 0)", "ice(3)", "rings 0: 191 182 173 163", "judge(0) = NOT");
        Edge.holds("21: a STRAW that stops", "straw(10, 0)", "mend(0, 7, 1)", "rings 0: 190 190", "judge(0) = NOT");
        Edge.holds("21: RINGS stay", "straw(10, 0)", "rings 0: 190 7", "judge(0) = 1", "element(0, 0) = 190", "element(0, 1) = 7");
    }

    // promise 22
    private static void who() {
        Edge.holds("22: sets of no STRAWS", "rings 0: 200", "who(0, 0) = 1", "who(0, 1) = 0", "rings 0: 199", "who(0, 0) = 0", "who(0, 1) = NOT");
        Edge.holds("22: no RINGS: all sets fit", "rings 0:", "straw(1, 0)", "who(0, 0) = 2", "straw(1, 0)", "who(0, 0) = 4", "straw(1, 0)", "who(0, 0) = 8", "who(0, 1) = 0");
        for (int set = 0; set < 8; set++) {
            Edge.holds("22: which STRAWS (bits): " + set, "straw(1, 0)", "straw(2, 0)", "straw(4, 0)", "rings 0: " + (200 - set), "who(0, 0) = 1", "who(0, 1) = " + set);
        }
        Edge.holds("22: none fits", "straw(1, 0)", "straw(2, 0)", "straw(4, 0)", "rings 0: 192", "who(0, 0) = 0", "who(0, 1) = NOT", "rings 0: 201", "who(0, 0) = 0", "who(0, 1) = NOT");
        Edge.holds("22: the least of several", "straw(5, 0)", "straw(5, 0)", "straw(10, 0)", "rings 0: 190", "who(0, 0) = 2", "who(0, 1) = 3", "rings 0: 195", "who(0, 0) = 2", "who(0, 1) = 1", "rings 0: 185", "who(0, 0) = 2", "who(0, 1) = 5");
        Edge.holds("22: all of them fit", "3 x straw(0, 0)", "rings 0: 200 200", "who(0, 0) = 8", "who(0, 1) = 0");
        Edge.holds("22: the same ones all along", "straw(5, 0)", "straw(10, 0)", "rings 0: 195 185", "who(0, 0) = 0", "who(0, 1) = NOT", "rings 0: 195 190", "who(0, 1) = 1", "rings 0: 190 180", "who(0, 1) = 2", "rings 0: 185 170", "who(0, 1) = 3");
        Edge.holds("22: 60 RINGS", "straw(1, 0)", "straw(1, 200)", "rings 0:" + " 200".repeat(60), "who(0, 0) = 2", "put(0, 59, 199)", "who(0, 0) = 0", "law t=59", "who(0, 0) = 2", "who(0, 1) = 1");
        Edge.holds("22: those that draw stop as they do", "straw(10, 0)", "mend(0, 7, 1)", "rings 0: 190 190", "who(0, 0) = 1", "who(0, 1) = 1");
    }

    // promise 23
    private static void since() {
        Edge.holds("23: no RINGS: the least", "straw(10, 0)", "rings 0:", "since(0, 0) = 0");
        Edge.holds("23: behind 0 seconds", "straw(5, 0)", "straw(10, 0)", "rings 0: 190 180 170", "since(0, 0) = 0", "since(0, 1) = NOT");
        Edge.holds("23: behind 1 second", "straw(5, 0)", "straw(10, 0)", "rings 0: 185 175 165", "since(0, 0) = 1");
        Edge.holds("23: behind the last but one", "straw(5, 0)", "straw(10, 0)", "rings 0: 185 170 160", "since(0, 0) = 2", "since(0, 1) = NOT");
        Edge.holds("23: behind as many as were told", "straw(5, 0)", "straw(10, 0)", "rings 0: 185 170 155", "since(0, 0) = 3", "since(0, 1) = 3");
        Edge.holds("23: behind 60 and 59", "straw(1, 0)", "law 1", "fill(60)", "row(0, 1, 60)", "rings 0: " + downTo(59, 60), "since(0, 0) = 60", "put(0, 59, 1)", "since(0, 0) = 59", "put(0, 59, 2)", "since(0, 0) = NOT");
        Edge.holds("23: the least of several: it gets none", "straw(5, 300)", "rings 0: 200 200 200", "since(0, 0) = 0");
        Edge.holds("23: the least of several: it gets all there is", "straw(10, 0)", "fill(20)", "rings 0: 10 0 0 0", "since(0, 0) = 2");
        Edge.holds("23: NOT", "straw(10, 0)", "rings 0: 190 180 171", "since(0, 0) = NOT", "rings 0: 201", "since(0, 0) = NOT", "rings 0: 200 190", "since(0, 0) = NOT");
        Edge.holds("23: whatever its own STOPS is", "straw(10, 0)", "mend(0, 7, 0)", "rings 0: 190 180 180", "since(0, 0) = 2", "of(0, 7) = 0", "judge(0) = 0");
        Edge.holds("23: all others as they are", "straw(10, 0)", "straw(5, 0)", "mend(1, 7, 1)", "rings 0: 185 175 175", "since(0, 0) = 2", "since(0, 1) = NOT");
        Edge.holds("23: from now, not by s", "straw(10, 0)", "3 x second()", "rings 0: 160 150 150", "since(0, 0) = 2", "rings 0: 170 170", "since(0, 0) = 0", "of(0, 14) = 3");
        Edge.holds("23: its rests count", "straw(10, 0)", "mend(0, 4, 1)", "mend(0, 5, 1)", "rings 0: 190 190 180 180", "since(0, 0) = 3", "rings 0: 190 190 190 190", "since(0, 0) = 1");
    }

    private static String downTo(int first, int n) {
        StringBuilder told = new StringBuilder();
        for (int i = 0; i < n; i++) {
            told.append(i > 0 ? " " : "").append(first - i);
        }
        return told.toString();
    }

    // promise 24: ranges
    private static void drawnRefused() {
        Edge.holds("24: n glasses (1 .. 20)", "straw(1, 0)", "law 1", "drawn(7, -1, 0) = BAD", "drawn(7, 0, 0) = BAD", "drawn(7, 1, 0) = 60", "drawn(7, 20, 0) = 1200", "drawn(7, 21, 0) = BAD", "drawn(7, " + FAR_BELOW + ", 0) = BAD",
            "drawn(7, " + FAR_ABOVE + ", 0) = BAD");
        Edge.holds("24: STRAWS that are there (0 on)", "drawn(7, 1, 0) = BAD", "straw(1, 0)", "law 1", "drawn(7, 1, 0) = 60", "drawn(7, 1, 1) = BAD", "2 x straw(1, 0)", "drawn(7, 1, 2) = 60", "drawn(7, 1, 3) = BAD", "drawn(7, 1, " + FAR_ABOVE + ") = BAD");
        Edge.holds("24: LEVELS (-1)", "drawn(7, 1, -1) = 200", "drawn(7, 1, -2) = BAD", "drawn(7, 1, " + FAR_BELOW + ") = BAD", "drawn(7, 0, -1) = BAD", "drawn(7, 21, -1) = BAD");
    }

    // promise 24
    private static void drawn() {
        Edge.holds("24: LEVELS left in all", "drawn(7, 20, -1) = 4000", "fill(999)", "drawn(7, 20, -1) = 19980", "fill(0)", "drawn(7, 20, -1) = 0", "ice(99)", "drawn(7, 1, -1) = 60", "mend(0, 8, 9)", "drawn(7, 1, -1) = 99");
        Edge.holds("24: 60 seconds each", "straw(1, 0)", "law t=59?50", "drawn(7, 1, 0) = 50", "law t=60?50", "drawn(7, 1, 0) = 0", "law t=58?50", "drawn(7, 2, 0) = 100");
        Edge.holds("24: each glass as it is now", "straw(1, 0)", "law 1", "fill(10)", "ice(2)", "drawn(7, 1, 0) = 12", "drawn(7, 3, 0) = 36", "drawn(7, 3, -1) = 0", "second()", "drawn(7, 3, 0) = 33");
        Edge.holds("24: STOPS, EVERY, RESTS count", "straw(1, 0)", "law 1", "mend(0, 7, 5)", "drawn(7, 2, 0) = 10", "mend(0, 7, 999)", "mend(0, 4, 1)", "mend(0, 5, 1)", "drawn(7, 2, 0) = 60");
        Edge.holds("24: GOT, not SWEET", "straw(1, 0)", "law 1", "mend(0, 9, 1)", "mend(0, 10, 9)", "drawn(7, 2, 0) = 120");
        Edge.holds("24: HICCUPS 0: never", "straw(1, 0)", "law 1", "drawn(12345, 20, 0) = 1200");
        Edge.holds("24: HICCUPS 12: ever", "straw(1, 0)", "law 1", "mend(0, 11, 12)", "drawn(12345, 20, 0) = 0", "drawn(12345, 20, -1) = 4000");
        Edge.holds("24: HICCUPS are of glasses by draws alone", "straw(1, 0)", "law 1", "mend(0, 11, 12)", "glass(9, 0, 0) = 9", "stopFor(0) = 99", "turns(9, 10, 0) = 9", "second() = 199");
    }

    private static int next(int z) {
        return z * 1103515245 + 12345;
    }

    private static int drawOf(int z) {
        return (z >>> 8) % 12;
    }

    // promise 24: by the draws themselves
    private static void hiccups() {
        for (int draw = 0; draw < 12; draw++) {
            int seed = 0;
            while (drawOf(next(seed)) != draw) {
                seed++;
            }
            Edge.holds("24: it HICCUPS, if the draw is below HICCUPS: " + draw, "straw(1, 0)", "law 1", "mend(0, 7, 1)", "mend(0, 11, " + draw + ")", "drawn(" + seed + ", 1, 0) = 1", "drawn(" + seed + ", 1, -1) = 199",
                "mend(0, 11, " + (draw + 1) + ")", "drawn(" + seed + ", 1, 0) = 0", "drawn(" + seed + ", 1, -1) = 200");
        }
        for (int seed = 1; seed < 6; seed++) {
            int z = seed;
            int first = 0;
            int second = 0;
            int third = 0;
            for (int i = 0; i < 120; i++) {
                z = next(z);
                first += drawOf(z) < 4 ? 0 : 1;
                z = next(z);
                second += i % 60 % 2 == 1 || drawOf(z) < 4 ? 0 : 1;
                z = next(z);
                third += i % 60 >= 9 || drawOf(z) < 4 ? 0 : 1;
            }
            Edge.holds("24: ahead of each STRAW each second, those that rest, too; all in two glasses, by seed " + seed, "3 x straw(1, 0)", "law 1", "mend(1, 4, 1)", "mend(1, 5, 1)", "mend(2, 7, 9)", "mend(0, 11, 4)",
                "drawn(" + seed + ", 2, 0) = " + first, "drawn(" + seed + ", 2, 1) = " + second, "drawn(" + seed + ", 2, 2) = " + third, "drawn(" + seed + ", 2, -1) = " + (400 - first - second - third));
        }
        int seed = 0;
        while (drawOf(next(seed)) >= 4 || drawOf(next(next(seed))) < 4) {
            seed++;
        }
        Edge.holds("24: if it would draw, it tried", "straw(1, 0)", "mend(0, 7, 2)", "mend(0, 11, 4)", "law t=0?20;t=1?30", "drawn(" + seed + ", 1, 0) = 30");
        while (drawOf(next(seed)) < 4 || drawOf(next(next(seed))) >= 4 || drawOf(next(next(next(seed)))) < 4) {
            seed++;
        }
        Edge.holds("24: if it would not draw, it did not try", "straw(1, 0)", "mend(0, 7, 3)", "mend(0, 4, 1)", "mend(0, 5, 1)", "mend(0, 11, 4)", "law t=0?20;t=1?30;t=2?40", "drawn(" + seed + ", 1, 0) = 50");
    }

    // promise 24: an int that wraps
    private static void seeds() {
        int[] seeds = {0, 1, -1, 2, Integer.MAX_VALUE, Integer.MIN_VALUE, Integer.MAX_VALUE - 1, Integer.MIN_VALUE + 1, 1103515245, -1103515245, 123456789};
        for (int seed : seeds) {
            int z = seed;
            int got = 0;
            for (int i = 0; i < 20 * 60; i++) {
                z = next(z);
                got += drawOf(z) < 7 ? 0 : 1;
            }
            Edge.holds("24: z is an int; SEED at first: " + seed, "straw(1, 0)", "law 1", "mend(0, 11, 7)", "drawn(" + seed + ", 20, 0) = " + got, "drawn(" + seed + ", 20, -1) = " + (4000 - got));
        }
    }
}
