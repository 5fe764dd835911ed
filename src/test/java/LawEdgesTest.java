/** The edges of promises 6 to 8: the tape, the law's grammar and faults, what its parts are worth, what a straw wants. */
public final class LawEdgesTest {
    private static final String FAR_BELOW = "-2147483648";
    private static final String FAR_ABOVE = "2147483647";
    private static final String DIGITS = "0123456789";
    private static final String NAMES = "pwtldk";
    private static final String OPENING = DIGITS + NAMES + "(!-";
    private static final String JOINING = "+-*/%";
    private static final String COMPARING = "<=>";
    private static final String LOOSE = "|&";

    public static void main(String[] args) {
        feed();
        nextBytes();
        faults();
        tapeThen();
        lines();
        worth();
        wraps();
        held();
        plain();
        wants();
        Edge.end();
    }

    // promise 6
    private static void feed() {
        Edge.holds("6: a byte (0 .. 255), one less", "feed(-1) = BAD", "count(1) = 0");
        Edge.holds("6: a byte (0 .. 255), the least", "feed(0) = 1", "count(1) = 1");
        Edge.holds("6: a byte (0 .. 255), the most", "feed(255) = 1", "count(1) = 1");
        Edge.holds("6: a byte (0 .. 255), one more", "feed(256) = BAD", "count(1) = 0");
        Edge.holds("6: a byte far out", "feed(" + FAR_BELOW + ") = BAD", "feed(" + FAR_ABOVE + ") = BAD", "feed(368) = BAD", "count(1) = 0");
        Edge.holds("6: how many it has", "feed(112) = 1", "feed(112) = 2", "feed(300) = BAD", "feed(112) = 3");
        Edge.holds("6: at most 120 bytes", "119 x feed(112) = 119", "feed(112) = 120", "count(1) = 120");
        Edge.holds("6: FULL (120)", "120 x feed(112)", "feed(112) = FULL", "feed(0) = FULL", "feed(255) = FULL", "count(1) = 120");
        Edge.holds("6: BAD ahead of FULL", "120 x feed(112)", "feed(256) = BAD", "feed(-1) = BAD");
        Edge.holds("6: room again behind law()", "120 x feed(112)", "law()", "feed(112) = 1", "119 x feed(112) = 120", "feed(112) = FULL");
    }

    /** Behind a beginning of a text each of the 256 bytes is either the fault or goes on. */
    private static void goesOn(String beginning, String signs) {
        for (int c = 0; c < 256; c++) {
            boolean on = signs.indexOf(c) >= 0;
            TwoStraws x = new TwoStraws();
            for (int i = 0; i < beginning.length(); i++) {
                x.feed(beginning.charAt(i));
            }
            x.feed(c);
            int answer = x.law();
            int fault = -100 - beginning.length();
            boolean due = on ? answer == 1 || answer == fault - 1 : answer == fault;
            if (!due) {
                Edge.holds("7: behind " + beginning + " the byte " + c + (on ? " goes on" : " is the FAULT"), "tape " + beginning, "feed(" + c + ")", "law() = " + (on ? 1 : fault));
            }
        }
    }

    // promise 7: the first byte with which no text goes on
    private static void nextBytes() {
        String[] before = {"", "p+", "p-", "p*", "p/", "p%", "p<", "p=", "p>", "p|", "p&", "p?", "p?w;", "p;", "(", "!", "-", "p--", "p+(", "p?(", "p;(", "12+", "p<w?", "p<w;", "p<w|", "(((((", "(((((p)+(", "------p-", "-(-(-(p)+"};
        for (String beginning : before) {
            goesOn(beginning, OPENING);
        }
        String[] brimful = {"((((((", "!!!!!!", "------", "(((-!(", "(((((!", "(((((-", "((((((p+", "((((((p<", "((((((p|", "-(-(-(p)+-(", "p?((((((", "p;!(!(!("};
        for (String beginning : brimful) {
            goesOn(beginning, DIGITS + NAMES);
        }
        String outside = JOINING + COMPARING + LOOSE + "?;";
        String[] behindOne = {"p", "w", "t", "l", "d", "k", "0000", "1234", "9999", "p;w", "p?w;t", "(p)", "((p))", "-p", "!p", "(p<w)", "p+w", "p|w", "p&w", "p<w|t", "p<w&t", "p<w;t", "((((((p))))))", "(p<w)+t"};
        for (String beginning : behindOne) {
            goesOn(beginning, outside);
        }
        String[] numbers = {"1", "12", "123", "0", "00", "000", "p+1", "p<w|123", "(p)+99"};
        for (String beginning : numbers) {
            goesOn(beginning, outside + DIGITS);
        }
        String[] compared = {"p<w", "p=w", "p>w", "p<w+t", "p+w<t", "p<(w)", "p<(w<t)", "p|w<t", "(p)<w", "1<1234", "p;w<t"};
        for (String beginning : compared) {
            goesOn(beginning, JOINING + LOOSE + "?;");
        }
        goesOn("p?w", JOINING + COMPARING + LOOSE + ";");
        goesOn("p?w+1234", JOINING + COMPARING + LOOSE + ";");
        goesOn("p?w<t", JOINING + LOOSE + ";");
        goesOn("p?(w)", JOINING + COMPARING + LOOSE + ";");
        String[] inside = {"(p", "((p)", "(p|w", "(1234", "p<(w", "(p<w|t", "p?(w", "((((((p", "-(-(-(p", "-(p", "(-p", "(!p"};
        for (String beginning : inside) {
            goesOn(beginning, JOINING + COMPARING + LOOSE + ")");
        }
        goesOn("(p<w", JOINING + LOOSE + ")");
        goesOn("p<(w<t", JOINING + LOOSE + ")");
        goesOn("((p<w)=k", JOINING + LOOSE + ")");
    }

    private static void fault(String sentence, String text, int place) {
        Edge.holds("7: " + sentence + ": " + text, "law " + text + " = " + (place < 0 ? 1 : -100 - place), "count(1) = 0");
    }

    // promise 7: faults, and the places next to them
    private static void faults() {
        fault("LINES, one or more; the length, if it ends too early", "", 0);
        fault("one LINE", "p", -1);
        fault("parted by ;", "p;w", -1);
        fault("ends too early behind ;", "p;", 2);
        fault("a LINE without a byte", ";p", 0);
        fault("a LINE without a byte", "p;;p", 2);
        fault("E ? E", "p?w", -1);
        fault("ends too early behind ?", "p?", 2);
        fault("no first E", "?p", 0);
        fault("no second E", "p?;w", 2);
        fault("a second ?", "p?w?t", 3);
        fault("a ? in brackets", "(p?w)", 2);
        fault("a ; in brackets", "(p;w)", 2);
        fault("a number of 1 digit", "7", -1);
        fault("a number of 4 digits", "1234", -1);
        fault("a number of 5 digits", "12345", 4);
        fault("a number of 5 digits, behind others", "p+12345+w", 6);
        fault("a number of 5 digits, the first ones 0", "00001", 4);
        fault("two numbers of 4 digits", "1234+5678", -1);
        fault("No blanks, ahead", " p", 0);
        fault("No blanks, within", "p +w", 1);
        fault("No blanks, behind", "p ", 1);
        fault("S < S but once", "p<w<t", 3);
        fault("S = S but once", "p=w=t", 3);
        fault("S > S but once", "p>w>t", 3);
        fault("once in each B", "p<w&t<l|d=k", -1);
        fault("once in each bracket", "(p<w)<(t>l)", -1);
        fault("once in each E", "p<w?t<l;d<k", -1);
        fault("6 ( open", "((((((p))))))", -1);
        fault("7 ( open", "(((((((p)))))))", 6);
        fault("6 ! open", "!!!!!!p", -1);
        fault("7 ! open", "!!!!!!!p", 6);
        fault("6 - open", "------p", -1);
        fault("7 - open", "-------p", 6);
        fault("6 of all of them open", "(!-(!-p))", -1);
        fault("7 of all of them open", "(!-(!-(p)))", 6);
        fault("7 of all of them open", "(!-(!-!p))", 6);
        fault("7 of all of them open", "(!-(!--p))", 6);
        fault("a - between is not open", "((((((p-w-t-l))))))", -1);
        fault("those that are closed are not open", "((((((p))))))+((((((w))))))", -1);
        fault("! is closed behind its O", "!!!!!!p+!!!!!!w", -1);
        fault("- is closed behind its O", "------p-------w", -1);
        fault("7 open behind others", "------p--------w", 14);
        fault("6 open in the second E", "p?((((((w))))))", -1);
        fault("7 open in the second E", "p?(((((((w)))))))", 8);
        fault("7 open in the second LINE", "p;(((((((w)))))))", 8);
        fault("ends too early with a ( open", "(p", 2);
        fault("ends too early with six ( open", "((((((p)))))", 12);
        fault("a ) too many", "(p))", 3);
        fault("a ) alone", ")", 0);
        fault("nothing in brackets", "()", 1);
        fault("two O", "pw", 1);
        fault("a ( behind an O", "p(w)", 1);
        fault("a ! behind an O", "p!w", 1);
        fault("a + ahead of an O", "+p", 0);
        fault("a * ahead of an O", "p**w", 2);
        fault("great letters", "P", 0);
        fault("other letters", "x", 0);
        fault("two |", "p||w", 2);
        fault("two &", "p&&w", 2);
        fault("of several faults the first", "p<w<t+12345", 3);
        fault("120 bytes", "p" + "+p".repeat(58) + "+11", -1);
        fault("120 bytes that end too early", "p" + "+p".repeat(59) + "+", 120);
        fault("120 bytes, the last one is the fault", "p" + "+p".repeat(59) + ")", 119);
        fault("120 bytes in LINES", "p" + ";p".repeat(59) + ";", 120);
        fault("120 bytes in LINES and questions", "0?p" + ";0?p".repeat(29) + ";", 120);
        Edge.holds("7: the byte 0 is the FAULT", "tape p", "feed(0)", "law() = -101");
        Edge.holds("7: the byte 255 is the FAULT", "tape p+", "feed(255)", "tape w", "law() = -102");
    }

    // promise 7: the tape and the law behind a law()
    private static void tapeThen() {
        Edge.holds("7: THE TAPE is empty then", "tape p+w", "law() = 1", "count(1) = 0", "law() = -100");
        Edge.holds("7: THE TAPE is empty behind a FAULT, too", "tape p+*w", "law() = -102", "count(1) = 0", "law() = -100");
        Edge.holds("7: a FAULT leaves THE LAW", "straw(6, 0)", "law 7", "law 8+ = -102", "wants(0, 0, 0) = 7", "law = -100", "wants(0, 0, 0) = 7", "law 12345 = -104", "wants(0, 0, 0) = 7");
        Edge.holds("7: a FAULT leaves that there is none", "straw(6, 0)", "law 8+ = -102", "wants(0, 0, 0) = 6", "wants(0, 0, 10) = 5");
        Edge.holds("7: the next TEXT", "straw(6, 0)", "law 7;8", "wants(0, 0, 0) = 7", "law 9 = 1", "wants(0, 0, 0) = 9", "law 0?9 = 1", "wants(0, 0, 0) = 0");
        Edge.holds("7: as long TEXTS as THE TAPE holds, one behind the other", "straw(6, 0)", "law " + longest(11) + " = 1", "wants(0, 0, 0) = 11", "law " + longest(12) + " = 1", "wants(0, 0, 0) = 12",
            "law " + longest(13) + " = 1", "wants(0, 0, 0) = 13", "law " + longest(14) + " = 1", "wants(0, 0, 0) = 14");
        Edge.holds("7: many LINES, one TEXT behind the other", "straw(6, 0)", "law " + "0?1;".repeat(29) + "2 = 1", "wants(0, 0, 0) = 2", "law " + "0?1;".repeat(29) + "3 = 1", "wants(0, 0, 0) = 3",
            "law " + "0?1;".repeat(29) + "4 = 1", "wants(0, 0, 0) = 4", "law 0?1;5 = 1", "wants(0, 0, 0) = 5");
        Edge.holds("7: a LAW is no CHANGE", "straw(6, 0)", "law 7", "count(2) = 0", "undo() = STATE");
    }

    /** 120 bytes that are worth as much. */
    private static String longest(int worth) {
        return "0" + "+0".repeat(58) + "+" + worth;
    }

    private static void worth(String text, int due) {
        Edge.holds("8: " + text, "straw(6, 30)", "straw(5, 40)", "mend(1, 1, 4)", "law " + text + " = 1", "wants(1, 100, 8) = " + due);
    }

    // promise 8: which line counts
    private static void lines() {
        worth("5", 5);
        worth("5;6", 5);
        worth("1?5;6", 5);
        worth("0?5;6", 6);
        worth("0?5;0?6;7", 7);
        worth("0?5;0?6", 0);
        worth("0?5", 0);
        worth("0-1?5;6", 5);
        worth("9999?5;6", 5);
        worth("1?0;6", 0);
        worth("1?0-5;6", 0);
        worth("0?5;2?6;3?7;8", 6);
        worth("3-3?9;2&2?8;7", 8);
        worth("k=1?10;20", 10);
        worth("k=0?10;20", 20);
        worth("k<0?1;k<1?2;k<2?3;k<3?4", 3);
        Edge.holds("8: as many LINES as 120 bytes hold, the last one counts", "straw(6, 0)", "law " + "0?1;".repeat(29) + "0?10 = 1", "wants(0, 0, 0) = 0", "law " + "0?1;".repeat(29) + "1?10 = 1", "wants(0, 0, 0) = 10",
            "law " + "0?1;".repeat(29) + "0+42 = 1", "wants(0, 0, 0) = 42");
        Edge.holds("8: the last of 60 LINES alone is read, too", "straw(6, 0)", "law 8" + ";1".repeat(59) + " = 1", "wants(0, 0, 0) = 8");
    }

    // promise 8: O, P, S, B, A, E
    private static void worth() {
        worth("p", 5);
        worth("w", 4);
        worth("t", 8);
        worth("l-30", 70);
        worth("d", 60);
        worth("k", 1);
        worth("0", 0);
        worth("0007", 7);
        worth("0070", 70);
        worth("9999/102", 98);
        worth("2+3*4", 14);
        worth("(2+3)*4", 20);
        worth("20-5-3", 12);
        worth("20-5+3", 18);
        worth("50/7/2", 3);
        worth("50/7*2", 14);
        worth("50%7*2", 2);
        worth("2*50%7", 2);
        worth("7/2", 3);
        worth("7%4", 3);
        worth("-7/2+9", 6);
        worth("7/-2+9", 6);
        worth("-7/-2", 3);
        worth("-7%4+9", 6);
        worth("7%-4", 3);
        worth("-8%4+9", 9);
        worth("5/0+3", 3);
        worth("5%0+3", 3);
        worth("0/0+3", 3);
        worth("-5/0+3", 3);
        worth("5/(3-3)+2", 2);
        worth("5%(3-3)+2", 2);
        worth("0|0", 0);
        worth("0|5", 1);
        worth("5|0", 1);
        worth("5|7", 1);
        worth("-1|0", 1);
        worth("0&0", 0);
        worth("0&5", 0);
        worth("5&0", 0);
        worth("5&2", 1);
        worth("1|0&0", 1);
        worth("0&0|1", 1);
        worth("(1|0)&0", 0);
        worth("4<5", 1);
        worth("5<5", 0);
        worth("5<4", 0);
        worth("-5<4", 1);
        worth("4=5", 0);
        worth("5=5", 1);
        worth("5=4", 0);
        worth("4>5", 0);
        worth("5>5", 0);
        worth("5>4", 1);
        worth("4>-5", 1);
        worth("1+2=3", 1);
        worth("2*3=6&1", 1);
        worth("5=5+1", 0);
        worth("(5=5)+1", 2);
        worth("3<(2<1)", 0);
        worth("!0", 1);
        worth("!7", 0);
        worth("!-7", 0);
        worth("!!7", 1);
        worth("!0+4", 5);
        worth("!0*0", 0);
        worth("-3+5", 2);
        worth("--3", 3);
        worth("5--3", 8);
        worth("5---3", 2);
        worth("-!0+4", 3);
        worth("!-0+4", 5);
        worth("((((((6))))))", 6);
        worth("!!!!!!6", 1);
        worth("------6", 6);
        worth("-(-(-(0-6)))", 6);
        worth("k+(k+(k+(k+(k+(k+(1|0&1<1+2*3))))))", 7);
        Edge.holds("8: all is worked out, a / by 0 behind | and &, too", "straw(6, 0)", "law 1|5/0", "wants(0, 0, 0) = 1", "law 0&5%0", "wants(0, 0, 0) = 0", "law 0?5/0;4", "wants(0, 0, 0) = 4");
    }

    // promise 8: ints that wrap
    private static void wraps() {
        String least = "256*256*256*128";
        worth(least + "<0", 1);
        worth(least + "-1>0", 1);
        worth("256*256*256*256=0", 1);
        worth("-(" + least + ")<0", 1);
        worth(least + "=-(" + least + ")", 1);
        worth("(" + least + "-1)+1<0", 1);
        worth("(" + least + "-1)+7=" + least + "+6", 1);
        worth(least + "/-1=" + least, 1);
        worth(least + "%-1", 0);
        worth(least + "/0", 0);
        worth(least + "%0+6", 6);
        worth(least + "/(0-2)=256*256*256*64", 1);
        worth("9999*9999*9999%100", 9999 * 9999 * 9999 % 100 < 0 ? 0 : 9999 * 9999 * 9999 % 100);
        worth("(-(9999*9999*9999))%100", -(9999 * 9999 * 9999) % 100 < 0 ? 0 : -(9999 * 9999 * 9999) % 100);
    }

    // promise 8: held within 0 .. 99
    private static void held() {
        worth("98", 98);
        worth("99", 99);
        worth("100", 99);
        worth("101", 99);
        worth("9999", 99);
        worth("1", 1);
        worth("-1", 0);
        worth("0-9999", 0);
        worth("256*256*256*128", 0);
        worth("256*256*256*128-1", 99);
        Edge.holds("8: held in a SECOND, too", "straw(6, 0)", "law 100", "glass(1, 0, 0) = 99", "law 0-1", "glass(1, 0, 0) = 0", "level(1, 0) = 200");
    }

    // promise 8: without a text
    private static void plain() {
        int[][] strongWide = {{1, 1, 0}, {2, 1, 0}, {3, 1, 1}, {1, 2, 0}, {2, 2, 1}, {4, 2, 2}, {5, 2, 3}, {1, 3, 1}, {10, 3, 10}, {10, 4, 13}, {11, 4, 14}, {20, 9, 60}, {0, 9, 0}, {20, 1, 6}};
        for (int[] one : strongWide) {
            Edge.holds("8: p times w by 3 (cut), " + one[0] + " by " + one[1], "straw(" + one[0] + ", 0)", "mend(0, 1, " + one[1] + ")", "wants(0, 200, 0) = " + one[2]);
        }
        Edge.holds("8: less t by TIRES (cut), 10", "straw(6, 0)", "wants(0, 200, 9) = 6", "wants(0, 200, 10) = 5", "wants(0, 200, 19) = 5", "wants(0, 200, 20) = 4", "wants(0, 200, 59) = 1", "wants(0, 200, 60) = 0");
        Edge.holds("8: less t by TIRES (cut), 1", "straw(6, 0)", "mend(0, 3, 1)", "wants(0, 200, 0) = 6", "wants(0, 200, 1) = 5", "wants(0, 200, 6) = 0");
        Edge.holds("8: less t by TIRES (cut), 99", "straw(6, 0)", "mend(0, 3, 99)", "wants(0, 200, 98) = 6", "wants(0, 200, 99) = 5", "wants(0, 200, 999) = 0", "mend(0, 0, 12)", "wants(0, 200, 999) = 2");
        Edge.holds("8: of each STRAW its own", "straw(10, 0)", "straw(7, 0)", "straw(3, 0)", "mend(1, 1, 6)", "mend(2, 1, 1)", "mend(0, 3, 1)", "mend(1, 3, 2)", "wants(0, 200, 9) = 1", "wants(1, 200, 9) = 10", "wants(2, 200, 9) = 1",
            "law p*w+k", "wants(0, 200, 9) = 30", "wants(1, 200, 9) = 43", "wants(2, 200, 9) = 5");
        Edge.holds("8: no less than 0", "straw(6, 0)", "mend(0, 3, 1)", "wants(0, 200, 7) = 0", "wants(0, 200, 999) = 0", "straw(0, 0)", "wants(1, 200, 0) = 0", "wants(1, 200, 999) = 0");
        Edge.holds("8: cut ahead of the less", "straw(5, 0)", "mend(0, 1, 1)", "wants(0, 200, 10) = 0", "mend(0, 1, 2)", "wants(0, 200, 15) = 2");
    }

    // promise 8: ranges
    private static void wants() {
        Edge.holds("8: no STRAW", "wants(0, 0, 0) = BAD", "wants(-1, 0, 0) = BAD");
        Edge.holds("8: STRAWS that are there alone", "straw(5, 0)", "wants(0, 0, 0) = 5", "wants(1, 0, 0) = BAD", "wants(-1, 0, 0) = BAD", "straw(6, 0)", "straw(7, 0)", "wants(2, 0, 0) = 7", "wants(3, 0, 0) = BAD",
            "wants(" + FAR_BELOW + ", 0, 0) = BAD", "wants(" + FAR_ABOVE + ", 0, 0) = BAD");
        Edge.holds("8: l (0 .. 999)", "straw(5, 0)", "law l/11", "wants(0, -1, 0) = BAD", "wants(0, 0, 0) = 0", "wants(0, 999, 0) = 90", "wants(0, 1000, 0) = BAD", "wants(0, " + FAR_BELOW + ", 0) = BAD", "wants(0, " + FAR_ABOVE + ", 0) = BAD");
        Edge.holds("8: t (0 .. 999)", "straw(5, 0)", "law t/11", "wants(0, 0, -1) = BAD", "wants(0, 0, 0) = 0", "wants(0, 0, 999) = 90", "wants(0, 0, 1000) = BAD", "wants(0, 0, " + FAR_BELOW + ") = BAD", "wants(0, 0, " + FAR_ABOVE + ") = BAD");
        Edge.holds("8: HOLE does not hold it", "straw(5, 0)", "mend(0, 6, 999)", "wants(0, 1, 0) = 5", "wants(0, 998, 0) = 5");
        Edge.holds("8: LEVEL does not hold it", "straw(5, 100)", "wants(0, 0, 0) = 5", "wants(0, 100, 0) = 5", "wants(0, 101, 0) = 5", "fill(0)", "wants(0, 102, 0) = 5");
        Edge.holds("8: d, how far LEVEL is above REACH", "straw(5, 100)", "law d", "wants(0, 100, 0) = 0", "wants(0, 101, 0) = 1", "wants(0, 199, 0) = 99", "mend(0, 2, 0)", "wants(0, 0, 0) = 0", "wants(0, 98, 0) = 98");
        Edge.holds("8: d below its REACH", "straw(5, 100)", "law 9+d", "wants(0, 99, 0) = 8", "wants(0, 91, 0) = 0", "wants(0, 0, 0) = 0", "mend(0, 2, 999)", "law d+999", "wants(0, 0, 0) = 0", "wants(0, 7, 0) = 7");
        Edge.holds("8: at l and t as told, not as they are", "straw(5, 0)", "law l+t", "second()", "wants(0, 20, 3) = 23");
    }
}
