/** The edges of promises 9 to 15: a second, a glass in thought, empty, more, turns, a mark, halves. */
public final class ThoughtEdgesTest {
    private static final String FAR_BELOW = "-2147483648";
    private static final String FAR_ABOVE = "2147483647";

    public static void main(String[] args) {
        glass();
        drawing();
        noises();
        holes();
        shares();
        sweets();
        tired();
        level();
        melting();
        empty();
        emptyAtMost();
        more();
        turnsRefused();
        turns();
        mark();
        markRefused();
        halves();
        halvesOfLittle();
        Edge.end();
    }

    // promise 9: ranges
    private static void glass() {
        Edge.holds("9: no STRAW", "glass(1, 0, 0) = BAD", "glass(0, 0, 2) = BAD");
        Edge.holds("9: n seconds (0 .. 999)", "straw(10, 0)", "glass(-1, 0, 0) = BAD", "glass(0, 0, 0) = 0", "glass(1, 0, 0) = 10", "glass(999, 0, 0) = 200", "glass(1000, 0, 0) = BAD",
            "glass(" + FAR_BELOW + ", 0, 0) = BAD", "glass(" + FAR_ABOVE + ", 0, 0) = BAD");
        Edge.holds("9: STRAWS that are there", "straw(10, 0)", "glass(1, -1, 0) = BAD", "glass(1, 1, 0) = BAD", "straw(9, 0)", "straw(8, 0)", "glass(1, 2, 0) = 8", "glass(1, 3, 0) = BAD",
            "glass(1, " + FAR_BELOW + ", 0) = BAD", "glass(1, " + FAR_ABOVE + ", 0) = BAD");
        Edge.holds("9: GOT (what 0), SWEET (1), NOISES (2)", "straw(10, 195)", "mend(0, 9, 196)", "glass(3, 0, -1) = BAD", "glass(3, 0, 0) = 5", "glass(3, 0, 1) = 10", "glass(3, 0, 2) = 2", "glass(3, 0, 3) = BAD",
            "glass(3, 0, " + FAR_BELOW + ") = BAD", "glass(3, 0, " + FAR_ABOVE + ") = BAD");
        Edge.holds("9: none by 0 seconds", "straw(10, 300)", "mend(0, 9, 999)", "glass(0, 0, 0) = 0", "glass(0, 0, 1) = 0", "glass(0, 0, 2) = 0");
        Edge.holds("9: from now on, not what was got before", "straw(10, 0)", "2 x second()", "glass(0, 0, 0) = 0", "glass(1, 0, 0) = 10", "fill(0)", "second()", "glass(0, 0, 2) = 0");
    }

    // promise 9: when a straw draws
    private static void drawing() {
        Edge.holds("9: s is below STOPS, 0", "straw(10, 0)", "mend(0, 7, 0)", "glass(1, 0, 0) = 0", "glass(999, 0, 0) = 0", "glass(999, 0, 2) = 0");
        Edge.holds("9: s is below STOPS, 1", "straw(10, 0)", "mend(0, 7, 1)", "glass(1, 0, 0) = 10", "glass(2, 0, 0) = 10", "glass(999, 0, 0) = 10");
        Edge.holds("9: s is below STOPS, 2", "straw(10, 0)", "mend(0, 7, 2)", "glass(1, 0, 0) = 10", "glass(2, 0, 0) = 20", "glass(3, 0, 0) = 20");
        Edge.holds("9: s is below STOPS, 999", "straw(10, 999)", "glass(998, 0, 2) = 998", "glass(999, 0, 2) = 999");
        Edge.holds("9: s is below STOPS, 998", "straw(10, 999)", "mend(0, 7, 998)", "glass(998, 0, 2) = 998", "glass(999, 0, 2) = 998");
        Edge.holds("9: from second 999 on none draws", "straw(10, 999)", "second()", "glass(997, 0, 2) = 997", "glass(998, 0, 2) = 998", "glass(999, 0, 2) = 998");
        Edge.holds("9: STOPS counts by s", "straw(10, 0)", "mend(0, 7, 3)", "2 x second()", "glass(1, 0, 0) = 10", "glass(2, 0, 0) = 10", "second()", "glass(9, 0, 0) = 0", "fill(200)", "glass(9, 0, 0) = 30");
        Edge.holds("9: s % (EVERY and RESTS) is below EVERY, 2 and 1", "straw(10, 0)", "mend(0, 4, 2)", "mend(0, 5, 1)", "glass(1, 0, 0) = 10", "glass(2, 0, 0) = 20", "glass(3, 0, 0) = 20", "glass(4, 0, 0) = 30",
            "glass(5, 0, 0) = 40", "glass(6, 0, 0) = 40", "glass(7, 0, 0) = 50");
        Edge.holds("9: EVERY 1, RESTS 60", "straw(10, 0)", "mend(0, 4, 1)", "mend(0, 5, 60)", "glass(1, 0, 0) = 10", "glass(2, 0, 0) = 10", "glass(61, 0, 0) = 10", "glass(62, 0, 0) = 20", "glass(122, 0, 0) = 20", "glass(123, 0, 0) = 30");
        Edge.holds("9: EVERY 60, RESTS 60", "straw(10, 999)", "mend(0, 5, 60)", "glass(60, 0, 2) = 60", "glass(61, 0, 2) = 60", "glass(120, 0, 2) = 60", "glass(121, 0, 2) = 61", "glass(180, 0, 2) = 120", "glass(181, 0, 2) = 120");
        Edge.holds("9: EVERY 1, RESTS 0", "straw(10, 999)", "mend(0, 4, 1)", "glass(60, 0, 2) = 60", "glass(999, 0, 2) = 999");
        Edge.holds("9: EVERY 60, RESTS 0", "straw(10, 999)", "glass(60, 0, 2) = 60", "glass(61, 0, 2) = 61");
        Edge.holds("9: EVERY 1, RESTS 1", "straw(10, 999)", "mend(0, 4, 1)", "mend(0, 5, 1)", "glass(1, 0, 2) = 1", "glass(2, 0, 2) = 1", "glass(3, 0, 2) = 2", "glass(999, 0, 2) = 500");
        Edge.holds("9: it breathes by s, not from now", "straw(10, 0)", "mend(0, 4, 2)", "mend(0, 5, 1)", "second()", "glass(1, 0, 0) = 10", "glass(2, 0, 0) = 10", "glass(3, 0, 0) = 20", "second()", "glass(1, 0, 0) = 0",
            "fill(200)", "glass(2, 0, 0) = 20");
    }

    // promise 9: noises
    private static void noises() {
        Edge.holds("9: LEVEL no more than REACH, one less", "straw(10, 50)", "fill(49)", "glass(1, 0, 0) = 0", "glass(1, 0, 2) = 1");
        Edge.holds("9: LEVEL no more than REACH, the same", "straw(10, 50)", "fill(50)", "glass(1, 0, 0) = 0", "glass(1, 0, 2) = 1");
        Edge.holds("9: LEVEL no more than REACH, one more", "straw(10, 50)", "fill(51)", "glass(1, 0, 0) = 1", "glass(1, 0, 2) = 0", "glass(2, 0, 0) = 1", "glass(2, 0, 2) = 1");
        Edge.holds("9: LEVEL 0, REACH 0", "straw(10, 0)", "fill(0)", "glass(1, 0, 0) = 0", "glass(1, 0, 2) = 1", "level(9, 0) = 0");
        Edge.holds("9: LEVEL 1, REACH 0", "straw(10, 0)", "fill(1)", "glass(1, 0, 0) = 1", "glass(1, 0, 2) = 0", "level(1, 0) = 0");
        Edge.holds("9: LEVEL 999, REACH 999", "straw(10, 999)", "fill(999)", "glass(1, 0, 0) = 0", "glass(1, 0, 2) = 1");
        Edge.holds("9: LEVEL 999, REACH 998", "straw(10, 998)", "fill(999)", "glass(1, 0, 0) = 1", "glass(1, 0, 2) = 0");
        Edge.holds("9: who wants nothing makes no noise", "straw(0, 0)", "glass(9, 0, 0) = 0", "glass(9, 0, 2) = 0", "fill(0)", "glass(9, 0, 2) = 9");
        Edge.holds("9: who rests makes no noise", "straw(10, 999)", "mend(0, 4, 1)", "mend(0, 5, 9)", "glass(10, 0, 2) = 1", "glass(11, 0, 2) = 2");
        Edge.holds("9: at most LEVEL less REACH", "straw(20, 50)", "fill(69)", "glass(1, 0, 0) = 19", "fill(70)", "glass(1, 0, 0) = 20", "fill(71)", "glass(1, 0, 0) = 20", "glass(2, 0, 0) = 21", "level(9, 0) = 50");
        Edge.holds("9: all by LEVEL as it begins", "straw(20, 0)", "straw(20, 190)", "glass(1, 1, 0) = 10", "glass(1, 1, 2) = 0", "glass(1, 0, 0) = 20", "glass(2, 1, 0) = 10", "glass(2, 1, 2) = 1");
        Edge.holds("9: ice melts behind the drawing", "straw(20, 0)", "fill(0)", "ice(10)", "mend(0, 8, 9)", "glass(1, 0, 0) = 0", "glass(1, 0, 2) = 1", "glass(2, 0, 0) = 9", "level(2, 0) = 1", "glass(3, 0, 0) = 10", "glass(3, 0, 2) = 1",
            "glass(4, 0, 2) = 2");
    }

    // promise 9: a hole
    private static void holes() {
        Edge.holds("9: LEVEL is below HOLE, not", "straw(11, 0)", "mend(0, 6, 199)", "glass(1, 0, 0) = 11", "mend(0, 6, 200)", "glass(1, 0, 0) = 11");
        Edge.holds("9: LEVEL is below HOLE, by half (cut)", "straw(11, 0)", "mend(0, 6, 201)", "glass(1, 0, 0) = 5");
        Edge.holds("9: HOLE 999, LEVEL 998", "straw(20, 0)", "mend(0, 6, 999)", "fill(998)", "glass(1, 0, 0) = 10");
        Edge.holds("9: HOLE 999, LEVEL 999", "straw(20, 0)", "mend(0, 6, 999)", "fill(999)", "glass(1, 0, 0) = 20", "glass(2, 0, 0) = 30");
        Edge.holds("9: HOLE 0, HOLE 1: LEVEL is never below when something is there", "straw(5, 0)", "mend(0, 6, 0)", "fill(7)", "glass(2, 0, 0) = 7", "mend(0, 6, 1)", "glass(2, 0, 0) = 7", "mend(0, 6, 2)", "glass(2, 0, 0) = 7",
            "mend(0, 6, 3)", "glass(2, 0, 0) = 7", "level(2, 0) = 0");
        Edge.holds("9: HOLE -1: none", "straw(5, 0)", "fill(1)", "glass(1, 0, 0) = 1", "mend(0, 6, 2)", "mend(0, 0, 1)", "glass(9, 0, 0) = 0", "glass(9, 0, 2) = 0", "mend(0, 6, -1)", "glass(9, 0, 0) = 1");
        Edge.holds("9: half of 1 is 0, of 2 and 3 is 1", "straw(1, 0)", "mend(0, 6, 999)", "glass(1, 0, 0) = 0", "mend(0, 0, 2)", "glass(1, 0, 0) = 1", "mend(0, 0, 3)", "glass(1, 0, 0) = 1", "mend(0, 0, 4)", "glass(1, 0, 0) = 2");
        Edge.holds("9: half first, then at most LEVEL less REACH", "straw(20, 50)", "mend(0, 6, 999)", "fill(62)", "glass(1, 0, 0) = 10", "fill(59)", "glass(1, 0, 0) = 9", "fill(60)", "glass(1, 0, 0) = 10");
        Edge.holds("9: half of what is held within 99", "straw(20, 0)", "law 9999", "glass(1, 0, 0) = 99", "mend(0, 6, 999)", "glass(1, 0, 0) = 49");
        Edge.holds("9: a hole of one alone", "straw(10, 0)", "straw(10, 0)", "mend(1, 6, 999)", "glass(1, 0, 0) = 10", "glass(1, 1, 0) = 5");
    }

    // promise 9: all together want more than there is
    private static void shares() {
        Edge.holds("9: WANT more than LEVEL, not: just as much", "straw(20, 0)", "straw(10, 0)", "fill(30)", "glass(1, 0, 0) = 20", "glass(1, 1, 0) = 10", "level(1, 0) = 0");
        Edge.holds("9: WANT more than LEVEL, by one (cut)", "straw(20, 0)", "straw(10, 0)", "fill(29)", "glass(1, 0, 0) = 19", "glass(1, 1, 0) = 9", "level(1, 0) = 1");
        Edge.holds("9: WANT less than LEVEL, by one", "straw(20, 0)", "straw(10, 0)", "fill(31)", "glass(1, 0, 0) = 20", "glass(1, 1, 0) = 10", "level(1, 0) = 1");
        Edge.holds("9: three of them", "3 x straw(1, 0)", "law k=0?50;k=1?30;20", "fill(100)", "glass(1, 0, 0) = 50", "glass(1, 1, 0) = 30", "glass(1, 2, 0) = 20", "level(1, 0) = 0", "fill(99)", "glass(1, 0, 0) = 49", "glass(1, 1, 0) = 29",
            "glass(1, 2, 0) = 19", "level(1, 0) = 2");
        Edge.holds("9: of 1 nobody gets any, nor makes a noise", "3 x straw(20, 0)", "fill(1)", "glass(9, 0, 0) = 0", "glass(9, 1, 0) = 0", "glass(9, 2, 0) = 0", "level(9, 0) = 1", "glass(9, 0, 2) = 0");
        Edge.holds("9: of 1 one alone gets it", "straw(20, 0)", "straw(20, 1)", "fill(1)", "glass(1, 0, 0) = 1", "glass(1, 1, 0) = 0", "glass(1, 1, 2) = 1");
        Edge.holds("9: nobody wants any", "3 x straw(0, 0)", "fill(1)", "glass(9, 0, 0) = 0", "glass(9, 2, 2) = 0", "level(9, 0) = 1");
        Edge.holds("9: WANTS are held by REACH before they are shared", "straw(20, 0)", "straw(20, 15)", "fill(20)", "glass(1, 0, 0) = 16", "glass(1, 1, 0) = 4", "level(1, 0) = 0");
        Edge.holds("9: WANTS are halved by a HOLE before they are shared", "straw(20, 0)", "straw(20, 0)", "mend(1, 6, 999)", "fill(20)", "glass(1, 0, 0) = 13", "glass(1, 1, 0) = 6", "level(1, 0) = 1");
        Edge.holds("9: those that rest or have stopped want none", "3 x straw(20, 0)", "mend(1, 7, 0)", "mend(2, 4, 1)", "mend(2, 5, 1)", "second()", "fill(20)", "glass(1, 0, 0) = 10", "glass(1, 1, 0) = 0", "glass(1, 2, 0) = 10");
        Edge.holds("9: the most that can be wanted", "3 x straw(20, 0)", "law 99", "fill(999)", "glass(1, 0, 0) = 99", "glass(3, 0, 0) = 297", "glass(4, 0, 0) = 333", "level(4, 0) = 0", "fill(296)", "glass(1, 0, 0) = 98", "level(1, 0) = 2");
    }

    // promise 9: sweet
    private static void sweets() {
        Edge.holds("9: REACH is below SUGARED, not: the same", "straw(10, 50)", "mend(0, 9, 50)", "mend(0, 10, 4)", "glass(1, 0, 1) = 10");
        Edge.holds("9: REACH is below SUGARED, by one", "straw(10, 50)", "mend(0, 9, 51)", "mend(0, 10, 4)", "glass(1, 0, 1) = 50");
        Edge.holds("9: SUGARED 0: none is sweet", "straw(10, 0)", "mend(0, 10, 9)", "glass(1, 0, 1) = 10");
        Edge.holds("9: SUGARED 1", "straw(10, 0)", "mend(0, 10, 9)", "mend(0, 9, 1)", "glass(1, 0, 1) = 100");
        Edge.holds("9: SUGARED 999", "straw(10, 998)", "fill(999)", "mend(0, 9, 999)", "glass(9, 0, 1) = 2", "mend(0, 9, 998)", "glass(9, 0, 1) = 1");
        Edge.holds("9: a unit counts 1, and SUGAR, 0", "straw(10, 0)", "mend(0, 9, 9)", "mend(0, 10, 0)", "glass(1, 0, 1) = 10");
        Edge.holds("9: a unit counts 1, and SUGAR, 1", "straw(10, 0)", "mend(0, 9, 9)", "glass(1, 0, 1) = 20");
        Edge.holds("9: a unit counts 1, and SUGAR, 9", "straw(10, 0)", "mend(0, 9, 9)", "mend(0, 10, 9)", "glass(1, 0, 1) = 100", "glass(1, 0, 0) = 10");
        Edge.holds("9: each by its own REACH", "straw(10, 0)", "straw(10, 20)", "mend(0, 9, 20)", "glass(1, 0, 1) = 20", "glass(1, 1, 1) = 10");
        Edge.holds("9: the sweetest of all", "straw(20, 0)", "law 99", "fill(999)", "ice(99)", "mend(0, 8, 9)", "mend(0, 9, 999)", "mend(0, 10, 9)", "glass(99, 0, 1) = 10980", "glass(99, 0, 0) = 1098");
    }

    // promise 9: how many seconds it has drawn or tried
    private static void tired() {
        Edge.holds("9: t is 0 in the first second", "straw(1, 0)", "law t", "glass(1, 0, 0) = 0", "glass(2, 0, 0) = 1", "glass(3, 0, 0) = 3");
        Edge.holds("9: a noise is a try", "straw(1, 5)", "law t", "fill(5)", "ice(99)", "mend(0, 8, 9)", "glass(1, 0, 2) = 1", "glass(2, 0, 0) = 1", "glass(2, 0, 2) = 1");
        Edge.holds("9: a rest is none", "straw(1, 0)", "law t+1", "mend(0, 4, 1)", "mend(0, 5, 1)", "glass(3, 0, 0) = 3", "glass(5, 0, 0) = 6");
        Edge.holds("9: who has stopped does not try", "straw(1, 0)", "law t+1", "mend(0, 7, 0)", "9 x second()", "mend(0, 7, 999)", "glass(1, 0, 0) = 1");
        Edge.holds("9: t goes on from what it was", "straw(1, 0)", "law t+1", "3 x second()", "glass(1, 0, 0) = 4", "fill(9)", "glass(1, 0, 0) = 1");
        Edge.holds("9: tires by 10", "straw(2, 0)", "glass(10, 0, 0) = 20", "glass(11, 0, 0) = 21", "glass(20, 0, 0) = 30", "glass(21, 0, 0) = 30", "glass(999, 0, 0) = 30", "glass(999, 0, 2) = 0");
    }

    // promise 10: ranges
    private static void level() {
        Edge.holds("10: n seconds (0 .. 999)", "ice(5)", "level(-1, 0) = BAD", "level(0, 0) = 200", "level(999, 0) = 205", "level(1000, 0) = BAD", "level(" + FAR_BELOW + ", 1) = BAD", "level(" + FAR_ABOVE + ", 1) = BAD");
        Edge.holds("10: LEVEL (what 0), ICE (1)", "ice(5)", "level(1, -1) = BAD", "level(1, 0) = 201", "level(1, 1) = 4", "level(1, 2) = BAD", "level(1, " + FAR_BELOW + ") = BAD", "level(1, " + FAR_ABOVE + ") = BAD");
        Edge.holds("10: now", "fill(0)", "level(0, 0) = 0", "level(0, 1) = 0", "fill(999)", "ice(99)", "level(0, 0) = 999", "level(0, 1) = 99");
    }

    // promise 10: ice melts
    private static void melting() {
        Edge.holds("10: MELTS 0", "ice(20)", "mend(0, 8, 0)", "level(1, 1) = 20", "level(999, 1) = 20", "level(999, 0) = 200");
        Edge.holds("10: MELTS 1", "ice(20)", "level(1, 0) = 201", "level(1, 1) = 19", "level(19, 1) = 1", "level(20, 1) = 0", "level(21, 1) = 0", "level(21, 0) = 220");
        Edge.holds("10: MELTS 9 of it at most", "ice(20)", "mend(0, 8, 9)", "level(1, 0) = 209", "level(2, 0) = 218", "level(2, 1) = 2", "level(3, 0) = 220", "level(3, 1) = 0", "level(4, 0) = 220");
        Edge.holds("10: just MELTS left", "ice(9)", "mend(0, 8, 9)", "level(1, 0) = 209", "level(1, 1) = 0");
        Edge.holds("10: 999 at most: brimful", "fill(999)", "ice(5)", "level(1, 0) = 999", "level(1, 1) = 5", "level(999, 1) = 5");
        Edge.holds("10: 999 at most: one goes in, what does not go in stays ICE", "fill(998)", "ice(5)", "mend(0, 8, 9)", "level(1, 0) = 999", "level(1, 1) = 4", "level(2, 1) = 4");
        Edge.holds("10: 999 at most: just all go in", "fill(990)", "ice(20)", "mend(0, 8, 9)", "level(1, 0) = 999", "level(1, 1) = 11", "level(2, 1) = 11");
        Edge.holds("10: 999 at most: all but one go in", "fill(991)", "ice(20)", "mend(0, 8, 9)", "level(1, 0) = 999", "level(1, 1) = 12");
        Edge.holds("10: LEVEL is less by what all get, then ICE melts", "straw(2, 0)", "straw(3, 0)", "fill(999)", "ice(9)", "mend(0, 8, 9)", "level(1, 0) = 999", "level(1, 1) = 4", "level(2, 0) = 998", "level(2, 1) = 0", "level(3, 0) = 993");
        Edge.holds("10: 99 of it", "fill(0)", "ice(99)", "level(98, 1) = 1", "level(99, 1) = 0", "level(99, 0) = 99");
    }

    // promise 11
    private static void empty() {
        Edge.holds("11: nobody is there, no ICE", "empty() = 0", "fill(0)", "empty() = 0");
        Edge.holds("11: nobody is there, ICE is left", "ice(1)", "empty() = 1", "ice(98)", "empty() = 99", "mend(0, 8, 9)", "empty() = 11");
        Edge.holds("11: just MELTS, and one more", "ice(9)", "mend(0, 8, 9)", "empty() = 1", "ice(1)", "empty() = 2");
        Edge.holds("11: LEVEL no more than REACH, the same", "straw(10, 50)", "fill(50)", "empty() = 0", "fill(49)", "empty() = 0");
        Edge.holds("11: LEVEL no more than REACH, one more", "straw(10, 50)", "fill(51)", "empty() = 1", "fill(60)", "empty() = 1", "fill(61)", "empty() = 2");
        Edge.holds("11: LEVEL 0", "straw(10, 0)", "fill(0)", "empty() = 0", "ice(1)", "empty() = 2");
        Edge.holds("11: s is no less than STOPS", "straw(0, 0)", "mend(0, 7, 0)", "empty() = 0", "mend(0, 7, 1)", "empty() = 1", "mend(0, 7, 5)", "empty() = 5", "mend(0, 7, 998)", "empty() = 998");
        Edge.holds("11: s is no less than STOPS, from now", "straw(0, 0)", "mend(0, 7, 3)", "second()", "empty() = 2", "second()", "empty() = 1", "second()", "empty() = 0", "second()", "empty() = 0", "fill(9)", "empty() = 3");
        Edge.holds("11: of each: one is at its REACH, the other goes on", "straw(10, 190)", "straw(10, 0)", "fill(200)", "mend(1, 3, 99)", "empty() = 19");
        Edge.holds("11: of each: one has stopped, the other goes on", "straw(10, 0)", "straw(0, 0)", "mend(1, 7, 7)", "mend(0, 7, 4)", "empty() = 7", "mend(0, 7, 8)", "empty() = 8");
        Edge.holds("11: who has stopped drinks no more", "straw(1, 0)", "straw(1, 0)", "law k=0?10;1", "fill(30)", "mend(0, 7, 1)", "empty() = 20", "mend(0, 7, 999)", "mend(1, 7, 1)", "law k=1?10;1", "empty() = 20");
        Edge.holds("11: of each of three", "3 x straw(0, 0)", "mend(0, 7, 2)", "mend(1, 7, 9)", "mend(2, 7, 4)", "empty() = 9", "mend(1, 2, 200)", "empty() = 4");
        Edge.holds("11: no ICE is left, though all have stopped", "straw(10, 0)", "mend(0, 7, 0)", "ice(3)", "empty() = 3");
        Edge.holds("11: who wants none may still get any", "straw(1, 0)", "fill(2)", "mend(0, 4, 1)", "mend(0, 5, 60)", "empty() = 62");
    }

    // promise 11: 999 at most
    private static void emptyAtMost() {
        Edge.holds("11: 999 at most: STOPS is 999", "straw(0, 0)", "empty() = 999", "second()", "empty() = 998");
        Edge.holds("11: 999 at most: ICE that never melts", "ice(1)", "mend(0, 8, 0)", "empty() = NOT", "straw(5, 0)", "empty() = NOT");
        Edge.holds("11: 999 at most: ICE that does not go in", "fill(999)", "ice(1)", "empty() = NOT", "straw(0, 0)", "empty() = NOT", "straw(1, 998)", "empty() = 999", "mend(0, 7, 0)", "empty() = 2");
        Edge.holds("11: 999 at most: it melts in the last second", "fill(999)", "ice(1)", "straw(1, 0)", "law t=998", "empty() = 999", "law t=997", "empty() = 999", "law t=999", "empty() = NOT");
    }

    // promise 12
    private static void more() {
        Edge.holds("12: no STRAWS", "more(0, 0) = NOT", "more(999, 0) = NOT", "more(0, 1) = 0", "more(999, 1) = 0");
        Edge.holds("12: BAD ahead of NOT", "more(-1, 0) = BAD", "more(1000, 0) = BAD", "more(0, -1) = BAD", "more(0, 2) = BAD", "more(-1, 1) = BAD", "more(1000, 1) = BAD");
        Edge.holds("12: n seconds (0 .. 999)", "straw(10, 0)", "straw(9, 0)", "more(-1, 0) = BAD", "more(0, 1) = 0", "more(1, 1) = 1", "more(999, 0) = 0", "more(1000, 0) = BAD", "more(" + FAR_BELOW + ", 1) = BAD", "more(" + FAR_ABOVE + ", 1) = BAD");
        Edge.holds("12: which (what 0), by how much (1)", "straw(10, 0)", "more(1, -1) = BAD", "more(1, 2) = BAD", "more(1, " + FAR_BELOW + ") = BAD", "more(1, " + FAR_ABOVE + ") = BAD");
        Edge.holds("12: of like ones the least, none got any", "3 x straw(10, 0)", "more(0, 0) = 0", "more(0, 1) = 0");
        Edge.holds("12: of like ones the least, all of them", "3 x straw(10, 0)", "more(5, 0) = 0", "more(5, 1) = 0");
        Edge.holds("12: of like ones the least, the last two", "straw(9, 0)", "2 x straw(10, 0)", "more(5, 0) = 1", "more(5, 1) = 5");
        Edge.holds("12: of like ones the least, the first and the last", "straw(10, 0)", "straw(9, 0)", "straw(10, 0)", "more(5, 0) = 0", "more(5, 1) = 5");
        Edge.holds("12: by one", "straw(1, 0)", "straw(1, 0)", "straw(2, 0)", "more(1, 0) = 2", "more(1, 1) = 1");
        Edge.holds("12: than the least, not than the next", "straw(10, 0)", "straw(3, 0)", "straw(7, 0)", "more(1, 0) = 0", "more(1, 1) = 7");
        Edge.holds("12: by GOT, not by SWEET", "straw(10, 50)", "straw(9, 0)", "mend(0, 9, 1)", "mend(0, 10, 9)", "more(1, 0) = 0", "more(1, 1) = 1");
        Edge.holds("12: by GOT, not by SWEET, the other way", "straw(9, 0)", "straw(10, 50)", "mend(0, 9, 1)", "mend(0, 10, 9)", "more(1, 0) = 1", "more(1, 1) = 1");
        Edge.holds("12: by how much more GOT, not SWEET", "straw(10, 0)", "straw(9, 50)", "mend(0, 9, 1)", "mend(0, 10, 9)", "more(1, 0) = 0", "more(1, 1) = 1");
        Edge.holds("12: one alone", "straw(10, 0)", "more(5, 0) = 0", "more(5, 1) = 0");
    }

    // promise 13: ranges
    private static void turnsRefused() {
        String[] there = {"straw(1, 0)", "straw(5, 0)", "straw(7, 0)"};
        Edge.holds("13: no STRAWS", "turns(1, 10, 0) = BAD", "turns(0, 10, -1) = BAD");
        Edge.holds("13: n seconds (0 .. 999)", there[0], there[1], there[2], "turns(-1, 10, 0) = BAD", "turns(0, 10, 0) = 0", "turns(1, 10, 0) = 1", "turns(999, 600, 0) = 10", "turns(1000, 10, 0) = BAD", "turns(" + FAR_BELOW + ", 10, 0) = BAD",
            "turns(" + FAR_ABOVE + ", 10, 0) = BAD");
        Edge.holds("13: m seconds (1 .. 60), one less", there[0], there[1], there[2], "turns(1, 0, 0) = BAD", "turns(1, 1, 0) = BAD", "turns(1, 2, 0) = BAD", "turns(1, 9, 0) = BAD");
        Edge.holds("13: m seconds (1 .. 60), the least and the most", there[0], there[1], there[2], "turns(1, 10, 0) = 1", "turns(1, 600, 0) = 1", "turns(1, 602, 2) = 7");
        Edge.holds("13: m seconds (1 .. 60), one more", there[0], there[1], there[2], "turns(1, 610, 0) = BAD", "turns(1, 611, 0) = BAD", "turns(1, 612, 0) = BAD", "turns(1, 1000, 0) = BAD");
        Edge.holds("13: m below 0 and far out", there[0], there[1], there[2], "turns(1, -1, 0) = BAD", "turns(1, -9, 0) = BAD", "turns(1, -10, 0) = BAD", "turns(1, " + FAR_BELOW + ", 0) = BAD", "turns(1, " + FAR_ABOVE + ", 0) = BAD", "turns(1, 2147483640, 0) = BAD");
        Edge.holds("13: who is first is there", there[0], "turns(1, 10, 0) = 1", "turns(1, 11, 0) = BAD", there[1], "turns(1, 11, 0) = 0", "turns(1, 12, 0) = BAD", there[2], "turns(1, 12, 0) = 0", "turns(1, 13, 0) = BAD", "turns(1, 19, 0) = BAD", "turns(1, 609, 0) = BAD");
        Edge.holds("13: the STRAW is there", there[0], there[1], "turns(2, 10, -1) = BAD", "turns(2, 10, 1) = 5", "turns(2, 10, 2) = BAD", "turns(2, 10, " + FAR_BELOW + ") = BAD", "turns(2, 10, " + FAR_ABOVE + ") = BAD");
    }

    // promise 13
    private static void turns() {
        String[] there = {"straw(1, 0)", "straw(5, 0)", "straw(7, 0)"};
        Edge.holds("13: STRAW 0 first, the next one by numbers behind it", there[0], there[1], there[2], "turns(5, 20, 0) = 2", "turns(5, 20, 1) = 10", "turns(5, 20, 2) = 7", "turns(2, 20, 1) = 0", "turns(3, 20, 1) = 5", "turns(4, 20, 2) = 0");
        Edge.holds("13: the last one first, behind it the first one", there[0], there[1], there[2], "turns(1, 12, 2) = 7", "turns(2, 12, 0) = 1", "turns(3, 12, 1) = 5", "turns(4, 12, 2) = 14", "turns(1, 12, 0) = 0", "turns(2, 12, 1) = 0");
        Edge.holds("13: the middle one first", there[0], there[1], there[2], "turns(2, 11, 1) = 5", "turns(2, 11, 2) = 7", "turns(2, 11, 0) = 0", "turns(3, 11, 0) = 1");
        Edge.holds("13: sixty seconds each", there[0], there[1], "turns(60, 600, 1) = 0", "turns(61, 600, 1) = 5", "turns(120, 600, 0) = 10", "turns(120, 601, 0) = 10", "turns(60, 601, 0) = 0", "turns(61, 601, 0) = 1");
        Edge.holds("13: alone: of little it gets all", "straw(20, 0)", "straw(20, 0)", "fill(7)", "turns(1, 10, 0) = 7", "turns(2, 10, 1) = 0");
        Edge.holds("13: one straw alone has every turn", "straw(1, 0)", "turns(9, 10, 0) = 9", "turns(9, 40, 0) = 9");
        Edge.holds("13: GOT, not SWEET", "straw(1, 0)", "mend(0, 9, 1)", "mend(0, 10, 9)", "turns(9, 10, 0) = 9");
        Edge.holds("13: without STOPS", "straw(1, 0)", "mend(0, 7, 0)", "turns(9, 10, 0) = 9", "glass(9, 0, 0) = 0");
        Edge.holds("13: without STOPS, at second 999, too", "straw(1, 0)", "law 1", "fill(999)", "ice(99)", "second()", "turns(999, 10, 0) = 999", "glass(999, 0, 0) = 998");
        Edge.holds("13: it breathes by s", "straw(1, 0)", "straw(5, 0)", "mend(1, 4, 1)", "mend(1, 5, 1)", "turns(4, 20, 1) = 5", "turns(4, 10, 1) = 0", "second()", "turns(2, 10, 1) = 5");
        Edge.holds("13: it tires in its turns alone", "straw(1, 0)", "straw(5, 0)", "law t+1", "turns(4, 10, 1) = 3", "turns(4, 20, 1) = 3", "turns(3, 20, 1) = 1");
        Edge.holds("13: the ice melts all along", "straw(0, 0)", "straw(9, 200)", "ice(9)", "turns(1, 11, 1) = 0", "turns(2, 11, 1) = 0", "turns(3, 11, 1) = 2", "turns(2, 10, 1) = 1");
    }

    // promise 14
    private static void mark() {
        Edge.holds("14: a GOT no more than b: just as much", "2 x straw(10, 0)", "mark(1) = 100", "mark(10) = 100");
        Edge.holds("14: a GOT no more than b: one less is too little for b", "2 x straw(10, 0)", "fill(199)", "mark(1) = 109");
        Edge.holds("14: a GOT no more than b: one more", "2 x straw(10, 0)", "fill(201)", "mark(1) = 101");
        Edge.holds("14: at the beginning, too", "straw(10, 0)", "straw(10, 200)", "mark(1) = 200", "fill(999)", "mend(1, 2, 999)", "mark(1) = 999");
        Edge.holds("14: by GOT, not by SWEET", "straw(10, 0)", "straw(10, 1)", "fill(201)", "mend(0, 9, 1)", "mend(0, 10, 9)", "mark(1) = 101", "mark(10) = 101");
        Edge.holds("14: LEVEL 0", "2 x straw(10, 0)", "fill(0)", "mark(1) = 0");
        Edge.holds("14: LEVEL 1", "2 x straw(10, 0)", "fill(1)", "mark(1) = 1");
        Edge.holds("14: LEVEL 2", "2 x straw(1, 0)", "fill(2)", "mark(1) = 1", "fill(3)", "mark(1) = 2");
        Edge.holds("14: till 99 seconds are over, one each second", "2 x straw(1, 0)", "law 1", "mark(1) = 151", "fill(999)", "mark(1) = 950");
        Edge.holds("14: till 99 seconds are over, two for a", "2 x straw(1, 0)", "law k=0?2;1", "fill(999)", "mark(1) = 933", "mark(10) = 933");
        Edge.holds("14: till 99 seconds are over, they go by for a who gets none, too", "straw(1, 0)", "straw(1, 0)", "law k=0?t>97;1", "fill(999)", "mark(1) = 999");
        Edge.holds("14: b in the last second", "2 x straw(1, 0)", "law k=0?1;t=0?98;t*0", "fill(999)", "mark(1) = 901");
        Edge.holds("14: b in a second too late", "2 x straw(1, 0)", "law k=0?1;t=0?99;t*0", "fill(999)", "mark(1) = 901");
        Edge.holds("14: alone", "2 x straw(10, 0)", "straw(20, 0)", "mark(1) = 100");
        Edge.holds("14: without STOPS", "2 x straw(10, 0)", "mend(0, 7, 0)", "mend(1, 7, 0)", "mark(1) = 100", "mark(10) = 100");
        Edge.holds("14: LEVELS as seconds end: a rests", "2 x straw(1, 0)", "law 1", "mend(0, 4, 1)", "mend(0, 5, 1)", "mark(1) = 167");
        Edge.holds("14: a gets none", "straw(10, 999)", "straw(10, 0)", "mark(1) = 200");
        Edge.holds("14: LEVELS that rise: the beginning is the least", "straw(10, 999)", "straw(10, 0)", "fill(10)", "ice(99)", "mark(1) = 10");
        Edge.holds("14: the ice is drunk, too", "2 x straw(10, 0)", "fill(0)", "ice(99)", "mend(0, 8, 9)", "mark(1) = 0");
        Edge.holds("14: from now", "2 x straw(1, 0)", "law 1", "second()", "mark(1) = 149");
    }

    // promise 14: ranges
    private static void markRefused() {
        Edge.holds("14: no STRAWS", "mark(1) = BAD", "mark(0) = BAD", "mark(10) = BAD");
        Edge.holds("14: STRAWS that are there", "straw(1, 0)", "mark(1) = BAD", "mark(10) = BAD", "straw(1, 0)", "mark(1)", "mark(2) = BAD", "mark(12) = BAD", "mark(20) = BAD", "mark(21) = BAD");
        Edge.holds("14: unlike", "3 x straw(0, 0)", "mark(0) = BAD", "mark(11) = BAD", "mark(22) = BAD");
        Edge.holds("14: all that are so", "3 x straw(0, 0)", "mark(1) = 200", "mark(2) = 200", "mark(10) = 200", "mark(12) = 200", "mark(20) = 200", "mark(21) = 200");
        Edge.holds("14: others", "3 x straw(0, 0)", "mark(3) = BAD", "mark(9) = BAD", "mark(13) = BAD", "mark(23) = BAD", "mark(30) = BAD", "mark(31) = BAD", "mark(100) = BAD", "mark(101) = BAD", "mark(-1) = BAD", "mark(-2) = BAD", "mark(-10) = BAD",
            "mark(-12) = BAD", "mark(" + FAR_BELOW + ") = BAD", "mark(" + FAR_ABOVE + ") = BAD");
    }

    private static void halves(String sentence, int first, int a, int b, String... steps) {
        String[] all = new String[steps.length + 3];
        System.arraycopy(steps, 0, all, 0, steps.length);
        all[steps.length] = "halves(1, 0) = " + first;
        all[steps.length + 1] = "halves(1, 1) = " + a;
        all[steps.length + 2] = "halves(1, 2) = " + b;
        Edge.holds("15: " + sentence, all);
    }

    // promise 15
    private static void halves() {
        Edge.holds("15: no STRAWS", "halves(1, 0) = BAD", "straw(1, 0)", "halves(1, 0) = BAD", "halves(10, 0) = BAD");
        Edge.holds("15: unlike STRAWS that are there", "2 x straw(1, 0)", "fill(0)", "halves(1, 0) = 0", "halves(10, 0) = 0", "halves(0, 0) = BAD", "halves(11, 0) = BAD", "halves(2, 0) = BAD", "halves(12, 0) = BAD", "halves(20, 0) = BAD", "straw(1, 0)",
            "halves(2, 0) = 0", "halves(12, 0) = 0", "halves(20, 0) = 0", "halves(21, 0) = 0", "halves(22, 0) = BAD", "halves(3, 0) = BAD", "halves(30, 0) = BAD", "halves(100, 0) = BAD", "halves(-1, 0) = BAD", "halves(-12, 0) = BAD",
            "halves(" + FAR_BELOW + ", 0) = BAD", "halves(" + FAR_ABOVE + ", 0) = BAD");
        Edge.holds("15: the first glass (what 0), what a (1), b (2) GETS", "2 x straw(1, 0)", "fill(3)", "halves(1, -1) = BAD", "halves(1, 3) = BAD", "halves(1, " + FAR_BELOW + ") = BAD", "halves(1, " + FAR_ABOVE + ") = BAD");
        halves("(0 .. LEVEL), of LEVEL 999", 499, 499, 500, "2 x straw(1, 0)", "law 99", "fill(999)");
        halves("of like ones the first glass: b gets none of either", 0, 999, 0, "straw(1, 0)", "straw(1, 999)", "law 99", "fill(999)");
        halves("a gets none of either: of like ones the least", 0, 0, 99, "straw(1, 999)", "straw(1, 0)", "law 99", "fill(99)");
        halves("60 seconds from now, just enough", 60, 60, 60, "2 x straw(1, 0)", "law 1", "fill(120)");
        halves("60 seconds from now, one less", 59, 59, 60, "2 x straw(1, 0)", "law 1", "fill(119)");
        halves("60 seconds from now, one more", 60, 60, 60, "2 x straw(1, 0)", "law 1", "fill(121)");
        halves("60 seconds from now, much more", 60, 60, 60, "2 x straw(1, 0)", "law 1", "fill(999)");
        halves("without STOPS", 100, 100, 100, "2 x straw(10, 0)", "mend(0, 7, 0)", "mend(1, 7, 0)");
        halves("without ICE", 0, 0, 1, "2 x straw(10, 0)", "fill(1)", "ice(99)", "mend(0, 8, 9)");
        halves("GETS, not SWEET", 100, 100, 100, "2 x straw(10, 0)", "mend(0, 9, 1)", "mend(0, 10, 9)");
        halves("alone", 100, 100, 100, "2 x straw(10, 0)", "straw(20, 0)");
        halves("from now: who has drawn is tired", 0, 0, 0, "2 x straw(1, 0)", "law t=0", "second()");
        halves("from now: s of now", 0, 2, 0, "2 x straw(1, 0)", "law 1", "fill(2)", "ice(5)", "mend(1, 4, 1)", "mend(1, 5, 60)", "mend(0, 8, 2)", "second()");
        halves("b can reach none of the greater glass: just his REACH", 10, 180, 0, "straw(20, 10)", "straw(10, 190)", "law k=0?50;1");
    }

    // promise 15: the least levels
    private static void halvesOfLittle() {
        halves("LEVEL 0", 0, 0, 0, "2 x straw(10, 0)", "fill(0)");
        halves("LEVEL 1", 0, 0, 1, "2 x straw(10, 0)", "fill(1)");
        halves("LEVEL 2", 1, 1, 1, "2 x straw(10, 0)", "fill(2)");
        halves("LEVEL 3", 1, 1, 2, "2 x straw(10, 0)", "fill(3)");
        halves("LEVEL 4", 2, 2, 2, "2 x straw(10, 0)", "fill(4)");
        halves("LEVEL just b's REACH: he takes the first one, and gets none", 0, 5, 0, "straw(10, 0)", "straw(10, 5)", "fill(5)");
        halves("LEVEL one more than b's REACH", 1, 5, 0, "straw(10, 0)", "straw(10, 5)", "fill(6)");
    }
}
