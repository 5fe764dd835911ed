/** The edges of promises 16 to 20: how deep, how strong, both, what a hole is worth, when to stop. */
public final class ChoiceEdgesTest {
    private static final String FAR_BELOW = "-2147483648";
    private static final String FAR_ABOVE = "2147483647";

    public static void main(String[] args) {
        reachForRefused();
        reachFor();
        slow();
        bothRefused();
        self();
        all();
        holeForRefused();
        holeFor();
        stopFor();
        Edge.end();
    }

    // promise 16: ranges
    private static void reachForRefused() {
        Edge.holds("16: STRAWS that are there", "reachFor(0, 1, 0) = BAD", "straw(10, 0)", "reachFor(-1, 1, 0) = BAD", "reachFor(0, 1, 0) = 0", "reachFor(1, 1, 0) = BAD", "2 x straw(10, 0)", "reachFor(2, 1, 1) = 10", "reachFor(3, 1, 1) = BAD",
            "reachFor(" + FAR_BELOW + ", 1, 1) = BAD", "reachFor(" + FAR_ABOVE + ", 1, 1) = BAD");
        Edge.holds("16: n seconds (0 .. 60)", "straw(10, 0)", "law 1", "reachFor(0, -1, 1) = BAD", "reachFor(0, 0, 1) = 0", "reachFor(0, 1, 1) = 1", "reachFor(0, 59, 1) = 59", "reachFor(0, 60, 1) = 60", "reachFor(0, 61, 1) = BAD",
            "reachFor(0, " + FAR_BELOW + ", 1) = BAD", "reachFor(0, " + FAR_ABOVE + ", 1) = BAD");
        Edge.holds("16: what 0 .. 3", "straw(10, 0)", "reachFor(0, 1, -1) = BAD", "reachFor(0, 1, 3) = 10", "reachFor(0, 1, 4) = BAD", "reachFor(0, 1, " + FAR_BELOW + ") = BAD", "reachFor(0, 1, " + FAR_ABOVE + ") = BAD");
    }

    // promise 16
    private static void reachFor() {
        Edge.holds("16: of like ones the least: by 0 seconds", "straw(10, 50)", "mend(0, 9, 99)", "reachFor(0, 0, 0) = 0", "reachFor(0, 0, 1) = 0", "reachFor(0, 0, 2) = 0", "reachFor(0, 0, 3) = 0");
        Edge.holds("16: of like ones the least: it has stopped", "straw(10, 50)", "mend(0, 7, 0)", "reachFor(0, 60, 0) = 0", "reachFor(0, 60, 1) = 0");
        Edge.holds("16: of like ones the least: many are enough", "straw(10, 50)", "reachFor(0, 3, 0) = 0", "reachFor(0, 3, 1) = 30");
        Edge.holds("16: REACH (0 .. 999), the greatest that gets any", "straw(1, 0)", "fill(999)", "law l=999&d=1?1", "reachFor(0, 1, 0) = 998", "reachFor(0, 1, 1) = 1");
        Edge.holds("16: REACH (0 .. 999), the least", "straw(1, 999)", "fill(999)", "law l=999&d=999?1", "reachFor(0, 1, 0) = 0", "reachFor(0, 1, 1) = 1");
        Edge.holds("16: of like ones the least: two that are like", "straw(1, 0)", "law d=150|d=50?7;d=100?6", "reachFor(0, 1, 0) = 50", "reachFor(0, 1, 1) = 7");
        Edge.holds("16: more by one", "straw(1, 0)", "law d=150?7;d=50?8;d=100?6", "reachFor(0, 1, 0) = 150", "reachFor(0, 1, 1) = 8");
        Edge.holds("16: SWEET likewise: below SUGARED", "straw(1, 0)", "mend(0, 9, 100)", "mend(0, 10, 9)", "law d=101?1;d=100?9", "reachFor(0, 1, 0) = 100", "reachFor(0, 1, 1) = 9", "reachFor(0, 1, 2) = 99", "reachFor(0, 1, 3) = 10");
        Edge.holds("16: SWEET likewise: of like ones the least", "straw(1, 0)", "mend(0, 9, 100)", "mend(0, 10, 8)", "law d=101?1;d=100?9", "reachFor(0, 1, 2) = 99", "reachFor(0, 1, 3) = 9", "mend(0, 10, 7)", "reachFor(0, 1, 2) = 100", "reachFor(0, 1, 3) = 9");
        Edge.holds("16: none is sweet", "straw(10, 50)", "mend(0, 10, 9)", "reachFor(0, 2, 2) = 0", "reachFor(0, 2, 3) = 20");
        Edge.holds("16: REACH above LEVEL, what ice brings", "straw(1, 0)", "fill(0)", "ice(99)", "mend(0, 8, 9)", "law l=99&d=1?1", "reachFor(0, 12, 0) = 98", "reachFor(0, 12, 1) = 1", "reachFor(0, 11, 1) = 0", "reachFor(0, 11, 0) = 0");
        Edge.holds("16: the last bit of ice counts", "straw(10, 0)", "fill(0)", "ice(1)", "reachFor(0, 1, 1) = 0", "reachFor(0, 2, 1) = 1", "ice(1)", "reachFor(0, 3, 1) = 2");
        Edge.holds("16: SWEET likewise: a greater one further up", "straw(1, 0)", "mend(0, 9, 999)", "mend(0, 10, 9)", "law d=200?5;d=150?7;d=149?6", "reachFor(0, 1, 2) = 50", "reachFor(0, 1, 3) = 70", "mend(0, 10, 0)", "reachFor(0, 1, 2) = 50",
            "reachFor(0, 1, 3) = 7", "law d=200?5;d=1?5;d=7?6", "reachFor(0, 1, 2) = 193", "reachFor(0, 1, 3) = 6", "reachFor(0, 1, 0) = 193");
        Edge.holds("16: of each STRAW its own", "straw(10, 0)", "straw(5, 100)", "straw(1, 7)", "law k=0&d=10?9;k=1&d=150?7;k=2&d=20?3;0", "reachFor(0, 1, 0) = 190", "reachFor(0, 1, 1) = 9", "reachFor(1, 1, 0) = 50", "reachFor(1, 1, 1) = 7",
            "reachFor(2, 1, 0) = 180", "reachFor(2, 1, 1) = 3", "of(0, 2) = 0", "of(1, 2) = 100", "of(2, 2) = 7");
        Edge.holds("16: what has melted counts", "straw(10, 0)", "fill(0)", "ice(2)", "mend(0, 8, 9)", "reachFor(0, 1, 1) = 0", "reachFor(0, 2, 1) = 2", "slow(0, 2) = 2");
        Edge.holds("16: SWEET likewise: it may be more than all there is", "straw(1, 0)", "mend(0, 9, 999)", "mend(0, 10, 9)", "fill(10)", "law d=10?3;d=5?4", "reachFor(0, 1, 2) = 5", "reachFor(0, 1, 3) = 40", "reachFor(0, 1, 1) = 4");
        Edge.holds("16: all there is above it", "straw(1, 0)", "law d=200?5;d=6?6", "reachFor(0, 1, 0) = 194", "reachFor(0, 1, 1) = 6", "law d=200?5;d=5?5", "reachFor(0, 1, 0) = 0");
        Edge.holds("16: the others drink as they are", "straw(10, 0)", "straw(20, 0)", "fill(60)", "reachFor(0, 60, 0) = 0", "reachFor(0, 60, 1) = 20");
        Edge.holds("16: STOPS, EVERY, RESTS as they are", "straw(10, 0)", "mend(0, 7, 4)", "mend(0, 4, 1)", "mend(0, 5, 1)", "reachFor(0, 60, 1) = 20");
        Edge.holds("16: the REACH is as it was", "straw(10, 77)", "reachFor(0, 60, 0) = 0", "of(0, 2) = 77", "count(2) = 0");
    }

    // promise 17
    private static void slow() {
        Edge.holds("17: STRAWS that are there", "slow(0, 1) = BAD", "straw(10, 0)", "slow(-1, 1) = BAD", "slow(0, 1) = 10", "slow(1, 1) = BAD", "2 x straw(9, 0)", "slow(2, 1) = 9", "slow(3, 1) = BAD", "slow(" + FAR_BELOW + ", 1) = BAD", "slow(" + FAR_ABOVE + ", 1) = BAD");
        Edge.holds("17: n seconds (0 .. 60)", "straw(20, 0)", "slow(0, -1) = BAD", "slow(0, 0) = 0", "slow(0, 1) = 20", "slow(0, 60) = 6", "slow(0, 61) = BAD", "slow(0, " + FAR_BELOW + ") = BAD", "slow(0, " + FAR_ABOVE + ") = BAD");
        Edge.holds("17: 60 seconds: the last one counts", "straw(20, 0)", "law t=59?p", "slow(0, 60) = 20", "slow(0, 59) = 0");
        Edge.holds("17: STRONG (0 .. as it is), 0", "straw(0, 0)", "law 5-p", "slow(0, 5) = 0");
        Edge.holds("17: STRONG (0 .. as it is), not more", "straw(3, 0)", "slow(0, 5) = 3", "law p*p", "slow(0, 5) = 3", "mend(0, 0, 20)", "law p", "slow(0, 5) = 20");
        Edge.holds("17: STRONG (0 .. as it is), 0 is tried, too", "straw(20, 0)", "law 20-p", "slow(0, 5) = 0", "law !(p-1)", "slow(0, 5) = 1", "law p=20", "slow(0, 5) = 20", "law p=19", "slow(0, 5) = 19");
        Edge.holds("17: of like ones the least", "straw(20, 0)", "law p=7|p=13", "slow(0, 5) = 7", "law 5", "slow(0, 5) = 0", "fill(9)", "law p", "slow(0, 1) = 9", "fill(0)", "slow(0, 60) = 0");
        Edge.holds("17: the last bit of ice counts", "straw(10, 0)", "fill(0)", "ice(1)", "slow(0, 1) = 0", "slow(0, 2) = 1");
        Edge.holds("17: of each STRAW its own", "straw(20, 0)", "straw(4, 0)", "straw(9, 0)", "slow(0, 1) = 20", "slow(1, 1) = 4", "slow(2, 1) = 9", "law p=3+k", "slow(0, 1) = 3", "slow(1, 1) = 4", "slow(2, 1) = 5", "of(0, 0) = 20", "of(1, 0) = 4",
            "of(2, 0) = 9");
        Edge.holds("17: more by one", "straw(20, 0)", "law (p=7)*5+(p=13)*6", "slow(0, 1) = 13", "law (p=7)*6+(p=13)*5", "slow(0, 1) = 7");
        Edge.holds("17: the STRONG is as it was", "straw(20, 0)", "slow(0, 60) = 6", "of(0, 0) = 20", "count(2) = 0");
    }

    // promise 18: ranges
    private static void bothRefused() {
        Edge.holds("18: fewer than two STRAWS", "both(1, 0) = STATE", "both(1, 1) = STATE", "straw(1, 0)", "both(1, 0) = STATE", "both(1, 1) = STATE", "straw(1, 0)", "both(1, 0) = 101", "both(1, 1) = 101");
        Edge.holds("18: BAD ahead of STATE", "both(-1, 0) = BAD", "both(61, 0) = BAD", "both(1, 2) = BAD", "both(1, -1) = BAD", "straw(1, 0)", "both(-1, 1) = BAD", "both(61, 1) = BAD", "both(0, 2) = BAD");
        Edge.holds("18: n seconds (0 .. 60)", "2 x straw(2, 0)", "law t=59?p", "both(-1, 0) = BAD", "both(0, 0) = 0", "both(59, 0) = 0", "both(59, 1) = 0", "both(60, 0) = 202", "both(60, 1) = 202", "both(61, 0) = BAD", "both(61, 1) = BAD",
            "both(" + FAR_BELOW + ", 0) = BAD", "both(" + FAR_ABOVE + ", 0) = BAD");
        Edge.holds("18: SELF (what 0), ALL (1)", "2 x straw(2, 0)", "both(1, -1) = BAD", "both(1, 2) = BAD", "both(1, " + FAR_BELOW + ") = BAD", "both(1, " + FAR_ABOVE + ") = BAD");
    }

    // promise 18: self
    private static void self() {
        Edge.holds("18: STRONG (0 .. as it is), 0", "2 x straw(0, 0)", "both(9, 0) = 0", "both(9, 1) = 0", "mend(0, 0, 1)", "both(9, 0) = 100", "mend(0, 0, 0)", "mend(1, 0, 1)", "both(9, 0) = 1");
        Edge.holds("18: STRONG (0 .. as it is), 20", "2 x straw(20, 0)", "fill(999)", "both(1, 0) = 2020", "both(1, 1) = 2020", "law p=20", "both(1, 0) = 2020", "law p=19", "both(1, 0) = 1919", "law p=0", "both(1, 0) = 0", "both(1, 1) = 0");
        Edge.holds("18: STRONG (0 .. as it is), unlike", "straw(20, 0)", "straw(3, 0)", "both(1, 0) = 2003", "mend(0, 0, 3)", "mend(1, 0, 20)", "both(1, 0) = 320");
        Edge.holds("18: SELF: of such pairs the first by numbers", "2 x straw(5, 0)", "law 1", "both(9, 0) = 0", "law p=2|p=4", "both(9, 0) = 202", "fill(0)", "both(9, 0) = 0");
        Edge.holds("18: SELF: neither GETS more: of 5 each takes 4", "2 x straw(10, 0)", "fill(5)", "both(1, 0) = 404");
        Edge.holds("18: SELF: the last bit of ice counts", "2 x straw(1, 0)", "mend(1, 7, 0)", "fill(0)", "ice(1)", "both(1, 0) = 0", "both(2, 0) = 100", "both(2, 1) = 100");
        Edge.holds("18: SELF: none", "2 x straw(1, 0)", "law t=0?p*(k+1);k=0?(l=200|l=197)*50;(l=199|l=198)*50", "both(2, 0) = NOT", "both(2, 1) = 101", "both(1, 0) = 101");
        Edge.holds("18: SELF beside a third one", "2 x straw(5, 0)", "straw(20, 0)", "fill(20)", "law k=2?20;p", "both(1, 0) = 505", "of(2, 0) = 20");
    }

    // promise 18: all
    private static void all() {
        Edge.holds("18: ALL: STRONG (0 .. as it is), unlike", "straw(20, 0)", "straw(3, 0)", "both(1, 1) = 2003");
        Edge.holds("18: ALL: STRONG (0 .. as it is), unlike the other way", "straw(3, 0)", "straw(20, 0)", "both(1, 1) = 320");
        Edge.holds("18: SELF: STRONG (0 .. as it is), unlike the other way", "straw(3, 0)", "straw(20, 0)", "both(1, 0) = 320");
        Edge.holds("18: ALL: most SWEET: the other one is the sweeter", "straw(10, 1)", "straw(10, 0)", "fill(5)", "mend(0, 9, 1)", "both(1, 1) = 5", "law k=0?p;p/2", "both(1, 1) = 10");
        Edge.holds("18: ALL: most SWEET, not most GOT", "straw(1, 1)", "straw(1, 0)", "fill(10)", "mend(0, 9, 1)", "law k=0?(t=0)*p*6;(t=1&l=10)*4", "both(2, 1) = 0", "mend(0, 10, 0)", "both(2, 1) = 100");
        Edge.holds("18: ALL: most SWEET, not most GOT, the other way", "straw(1, 0)", "straw(1, 1)", "fill(10)", "mend(0, 9, 1)", "law k=1?(t=0)*p*6;(t=1&l=10)*4", "both(2, 1) = 0", "mend(0, 10, 0)", "both(2, 1) = 1");
        Edge.holds("18: ALL: of like ones the first", "2 x straw(5, 0)", "law 1", "both(9, 1) = 0", "law p=2|p=4", "both(9, 1) = 202");
        Edge.holds("18: ALL: of like ones the first: the one who takes it does not matter", "2 x straw(10, 0)", "fill(5)", "both(1, 1) = 5");
        Edge.holds("18: ALL: most SWEET: it is the sweeter one's", "straw(10, 0)", "straw(10, 1)", "fill(5)", "mend(0, 9, 1)", "both(1, 1) = 500", "mend(0, 10, 0)", "both(1, 1) = 104");
        Edge.holds("18: ALL: both together alone, not the third one", "2 x straw(5, 0)", "straw(20, 0)", "law k=2?p*2;p", "fill(999)", "both(1, 1) = 505");
        Edge.holds("18: ALL: one gets none", "straw(10, 999)", "straw(10, 0)", "both(1, 1) = 10", "both(1, 0) = 10");
        Edge.holds("18: both are as they were", "straw(7, 0)", "straw(9, 0)", "both(60, 0)", "both(60, 1)", "of(0, 0) = 7", "of(1, 0) = 9", "count(2) = 0");
    }

    // promise 19: ranges
    private static void holeForRefused() {
        Edge.holds("19: STRAWS that are there", "holeFor(0, 5, 1) = VOID", "straw(1, 0)", "holeFor(-1, 5, 1) = VOID", "holeFor(0, 5, 1) = 0", "holeFor(1, 5, 1) = VOID", "2 x straw(1, 0)", "holeFor(2, 5, 1) = 0", "holeFor(3, 5, 1) = VOID",
            "holeFor(" + FAR_BELOW + ", 5, 1) = VOID", "holeFor(" + FAR_ABOVE + ", 5, 1) = VOID");
        Edge.holds("19: a HOLE at a LEVEL (0 .. 999)", "2 x straw(1, 0)", "law 10", "fill(40)", "holeFor(0, -1, 9) = VOID", "holeFor(0, -2, 9) = VOID", "holeFor(0, 0, 9) = 0", "holeFor(0, 999, 9) = 6", "holeFor(0, 1000, 9) = VOID",
            "holeFor(0, " + FAR_BELOW + ", 9) = VOID", "holeFor(0, " + FAR_ABOVE + ", 9) = VOID");
        Edge.holds("19: n seconds (0 .. 60)", "2 x straw(1, 0)", "law 10", "fill(40)", "holeFor(0, 999, -1) = VOID", "holeFor(0, 999, 0) = 0", "holeFor(0, 999, 60) = 6", "holeFor(0, 999, 61) = VOID", "holeFor(0, 999, " + FAR_BELOW + ") = VOID",
            "holeFor(0, 999, " + FAR_ABOVE + ") = VOID");
        Edge.holds("19: the last of 60 seconds counts", "2 x straw(2, 0)", "fill(2)", "law t<59?0;2", "holeFor(0, 999, 59) = 0", "holeFor(0, 999, 60) = 0", "fill(3)", "holeFor(0, 999, 59) = 0", "holeFor(0, 999, 60) = 1");
    }

    // promise 19
    private static void holeFor() {
        String[] glass = {"2 x straw(1, 0)", "law 10", "fill(40)"};
        Edge.holds("19: LEVEL is never below it", glass[0], glass[1], glass[2], "holeFor(0, 1, 60) = 0", "holeFor(0, 20, 60) = 0");
        Edge.holds("19: LEVEL is below it, by one", glass[0], glass[1], glass[2], "holeFor(0, 21, 60) = 2", "holeFor(0, 40, 60) = 2");
        Edge.holds("19: LEVEL is below it from the first second on", glass[0], glass[1], glass[2], "holeFor(0, 41, 60) = 6", "holeFor(0, 41, 1) = 0", "holeFor(0, 41, 2) = 0", "holeFor(0, 41, 3) = 6");
        Edge.holds("19: the last bit of ice counts", "2 x straw(1, 0)", "law 1", "fill(0)", "ice(1)", "holeFor(0, 999, 1) = 0", "holeFor(0, 999, 2) = 1");
        Edge.holds("19: than without one, whatever it has", glass[0], glass[1], glass[2], "mend(0, 6, 999)", "holeFor(0, 0, 60) = 0", "holeFor(0, 999, 60) = 6", "of(0, 6) = 999");
        Edge.holds("19: the others keep theirs", glass[0], glass[1], glass[2], "mend(1, 6, 999)", "holeFor(0, 999, 60) = 7");
        Edge.holds("19: the others all together", "3 x straw(1, 0)", "law 10", "fill(60)", "holeFor(0, 999, 60) = 8", "holeFor(1, 999, 60) = 8", "holeFor(2, 999, 60) = 8");
        Edge.holds("19: of each STRAW its own", "2 x straw(1, 0)", "law k=0?10;5", "fill(40)", "holeFor(0, 999, 9) = 7", "holeFor(1, 999, 9) = 6");
        Edge.holds("19: GOT, not SWEET", "2 x straw(1, 0)", "law 10", "fill(40)", "mend(0, 9, 1)", "mend(0, 10, 9)", "holeFor(0, 999, 60) = 6");
        Edge.holds("19: nobody else", "straw(1, 0)", "law 10", "fill(40)", "holeFor(0, 999, 60) = 0");
        Edge.holds("19: less than without one", "2 x straw(10, 0)", "law k=0?10;l>185?0;10", "holeFor(0, 999, 3) = -10", "holeFor(0, 999, 2) = 0");
        Edge.holds("19: a worth of -1 is no refusal", "2 x straw(1, 0)", "law k=0?2;l<199", "holeFor(0, 200, 2) = 0", "holeFor(0, 201, 2) = -1", "holeFor(0, 999, 2) = -1");
    }

    // promise 20
    private static void stopFor() {
        Edge.holds("20: STRAWS that are there", "stopFor(0) = BAD", "straw(10, 190)", "stopFor(-1) = BAD", "stopFor(0) = 1", "stopFor(1) = BAD", "2 x straw(1, 199)", "stopFor(2) = 1", "stopFor(3) = BAD", "stopFor(" + FAR_BELOW + ") = BAD", "stopFor(" + FAR_ABOVE + ") = BAD");
        Edge.holds("20: 0, if it gets none: at its REACH", "straw(10, 200)", "stopFor(0) = 0", "mend(0, 2, 999)", "stopFor(0) = 0");
        Edge.holds("20: 0, if it gets none: it wants none", "straw(0, 0)", "stopFor(0) = 0");
        Edge.holds("20: 0, if it gets none: nothing is there", "straw(10, 0)", "fill(0)", "stopFor(0) = 0");
        Edge.holds("20: by 99 seconds from now, the last one", "straw(1, 0)", "law t=98", "stopFor(0) = 99");
        Edge.holds("20: by 99 seconds from now, one too late", "straw(1, 0)", "law t=99", "stopFor(0) = 0", "second()", "stopFor(0) = 100");
        Edge.holds("20: all 99 of them", "straw(1, 0)", "law 1", "fill(999)", "stopFor(0) = 99", "second()", "stopFor(0) = 100");
        Edge.holds("20: the least: the second behind the last one in which it gets any", "straw(10, 0)", "fill(9)", "stopFor(0) = 1", "fill(10)", "stopFor(0) = 1", "fill(11)", "stopFor(0) = 2");
        Edge.holds("20: than if it never STOPPED, whatever it has", "straw(10, 0)", "mend(0, 7, 0)", "fill(30)", "stopFor(0) = 3", "mend(0, 7, 2)", "stopFor(0) = 3", "of(0, 7) = 2");
        Edge.holds("20: others stop as they do", "2 x straw(10, 0)", "fill(40)", "stopFor(0) = 2", "mend(1, 7, 0)", "stopFor(0) = 4");
        Edge.holds("20: by s, not from now", "straw(10, 0)", "fill(40)", "2 x second()", "stopFor(0) = 4", "2 x second()", "stopFor(0) = 0");
        Edge.holds("20: by s: STOPS of that second is enough", "straw(10, 0)", "fill(40)", "second()", "stopFor(0) = 4", "mend(0, 7, 4)", "glass(99, 0, 0) = 30", "mend(0, 7, 3)", "glass(99, 0, 0) = 20");
        Edge.holds("20: of each STRAW its own", "3 x straw(1, 0)", "law k=0?t<3;k=1?t<7;t<5", "mend(1, 7, 2)", "mend(2, 7, 0)", "stopFor(0) = 3", "stopFor(1) = 7", "stopFor(2) = 5");
        Edge.holds("20: rests lie between", "straw(10, 0)", "fill(20)", "mend(0, 4, 1)", "mend(0, 5, 60)", "stopFor(0) = 62");
    }
}
