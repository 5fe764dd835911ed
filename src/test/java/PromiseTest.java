/** For each promise: ordinary inputs, the edges that the document names, wrong inputs; answers worked out by hand. */
public final class PromiseTest {
    private static final int VOID = TwoStraws.VOID;
    private static int wrong = 0;
    private static int asked = 0;

    private static void due(String call, long got, long want) {
        asked++;
        if (got != want) {
            wrong++;
            System.out.println(call + " answered " + got + ", due is " + want);
        }
    }

    private static int law(TwoStraws x, String text) {
        for (int i = 0; i < text.length(); i++) {
            x.feed(text.charAt(i));
        }
        return x.law();
    }

    private static void rings(TwoStraws x, int shelf, int... levels) {
        x.row(shelf, 1, levels.length);
        for (int i = 0; i < levels.length; i++) {
            x.put(shelf, i, levels[i]);
        }
    }

    private static void bytes(TwoStraws x, int shelf, int... values) {
        x.row(shelf, 0, values.length);
        for (int i = 0; i < values.length; i++) {
            x.put(shelf, i, values[i]);
        }
    }

    public static void main(String[] args) {
        newObject();
        straw();
        straws();
        mend();
        of();
        feed();
        lawFaults();
        lawWorth();
        wants();
        glass();
        shares();
        level();
        empty();
        more();
        turns();
        mark();
        halves();
        reachFor();
        slow();
        both();
        bothUnlike();
        holeFor();
        stopFor();
        judge();
        who();
        since();
        drawn();
        second();
        fill();
        ice();
        led();
        imageBack();
        undoRedo();
        body();
        act();
        keep();
        rowPutElement();
        shift();
        taken();
        count();
        System.out.println(asked + " answers asked, " + wrong + " not as due");
        if (wrong != 0) {
            System.exit(1);
        }
    }

    // promise 1
    private static void newObject() {
        TwoStraws x = new TwoStraws();
        int[] first = {1, 0, 1, 0, 200, 0, 0};
        for (int what = 8; what <= 14; what++) {
            due("1 of(0, " + what + ")", x.of(0, what), first[what - 8]);
        }
        for (int what = 0; what <= 4; what++) {
            due("1 count(" + what + ")", x.count(what), 0);
        }
        for (int shelf = 0; shelf < 6; shelf++) {
            due("1 taken", x.taken(shelf, 0), -11);
        }
        due("1 seconds", x.led(0, 3), 0);
        due("1 fills", x.led(0, 4), 0);
    }

    // promise 2
    private static void straw() {
        TwoStraws x = new TwoStraws();
        due("2 strong -1", x.straw(-1, 0), -1);
        due("2 strong 21", x.straw(21, 0), -1);
        due("2 reach -1", x.straw(0, -1), -1);
        due("2 reach 1000", x.straw(0, 1000), -1);
        due("2 none came", x.count(0), 0);
        due("2 first", x.straw(0, 999), 0);
        due("2 second", x.straw(20, 0), 1);
        due("2 third", x.straw(7, 8), 2);
        due("2 full", x.straw(7, 8), -3);
        due("2 bad ahead of full", x.straw(21, 8), -1);
        int[] first = {7, 3, 8, 10, 60, 0, -1, 999};
        for (int what = 0; what < 8; what++) {
            due("2 of(2, " + what + ")", x.of(2, what), first[what]);
        }
        due("2 no change", x.count(2), 0);
    }

    // promise 3
    private static void straws() {
        TwoStraws x = new TwoStraws();
        due("3 shelf -1", x.straws(-1, 0, 1), -1);
        due("3 shelf 6", x.straws(6, 0, 1), -1);
        due("3 n 0", x.straws(0, 0, 0), -1);
        due("3 n 4", x.straws(0, 0, 4), -1);
        due("3 missing", x.straws(0, 0, 3), 0);
        int[] below = {-1, -2, -3, -4, -9, Integer.MIN_VALUE, Integer.MIN_VALUE + 2};
        for (int i : below) {
            due("3 missing from " + i, x.straws(0, i, 3), 0);
            due("3 shelf 6 from " + i, x.straws(6, i, 3), -1);
            due("3 n 0 from " + i, x.straws(0, i, 0), -1);
            due("3 n 4 from " + i, x.straws(0, i, 4), -1);
        }
        x.row(0, 1, 9);
        due("3 shorts", x.straws(0, 0, 3), -12);
        due("3 shorts from -1", x.straws(0, -1, 3), -12);
        x.body(0);
        x.keep(0, 0);
        due("3 a sip", x.straws(0, 0, 3), -12);
        due("3 a sip from -1", x.straws(0, -1, 3), -12);
        bytes(x, 0, 1, 1, 1, 1, 1, 1, 1, 1, 1);
        for (int i : below) {
            due("3 no place " + i, x.straws(0, i, 3), 0);
        }
        due("3 none came from below", x.count(0), 0);
        bytes(x, 0, 5, 2, 100, 6, 9, 0, 7, 1);
        due("3 past the end", x.straws(0, 8, 1), 0);
        due("3 far past the end", x.straws(0, Integer.MAX_VALUE, 1), 0);
        due("3 ends within a three", x.straws(0, 3, 3), 1);
        due("3 wide", x.of(0, 1), 9);
        bytes(x, 1, 5, 2, 127, 6, 0, 0, 7, 1, 1);
        due("3 wide 0 is not so", x.straws(1, 0, 3), 1);
        due("3 reach", x.of(1, 2), 127);
        due("3 from there", x.straws(1, 3, 1), 0);
        bytes(x, 2, 21, 1, 0, 0, 10, 0, 0, 1, 128, -1, 1, 0);
        for (int i = 0; i < 4; i++) {
            due("3 not so " + i, x.straws(2, 3 * i, 1), 0);
        }
        bytes(x, 3, 1, 1, 1, 2, 2, 2);
        due("3 full", x.straws(3, 0, 2), 1);
        due("3 full before", x.straws(3, 0, 2), 0);
        due("3 the last one", x.of(2, 0), 1);
        due("3 no change", x.count(2), 0);
        TwoStraws y = new TwoStraws();
        bytes(y, 0, 1, 1, 1, 2, 2, 2);
        due("3 no more than asked", y.straws(0, 0, 1), 1);
        due("3 no more came", y.count(0), 1);
        due("3 to the row's end", y.straws(0, 3, 3), 1);
        due("3 the last one", y.of(1, 2), 2);
    }

    // promise 4
    private static void mend() {
        TwoStraws x = new TwoStraws();
        x.straw(5, 10);
        x.straw(5, 10);
        int[] least = {0, 1, 0, 1, 1, 0, -1, 0, 0, 0, 0, 0};
        int[] most = {20, 9, 999, 99, 60, 60, 999, 999, 9, 999, 9, 12};
        int[] first = {5, 3, 10, 10, 60, 0, -1, 999, 1, 0, 1, 0};
        for (int what = 0; what < 12; what++) {
            int number = what < 8 ? 1 : 0;
            due("4 below " + what, x.mend(number, what, least[what] - 1), VOID);
            due("4 above " + what, x.mend(number, what, most[what] + 1), VOID);
            due("4 least " + what, x.mend(number, what, least[what]), first[what]);
            due("4 most " + what, x.mend(number, what, most[what]), least[what]);
            due("4 most again " + what, x.mend(number, what, most[what]), most[what]);
            due("4 of " + what, x.of(number, what), most[what]);
            due("4 the other " + what, what < 8 ? x.of(0, what) : most[what], what < 8 ? first[what] : most[what]);
            due("4 number 2 " + what, x.mend(2, what, least[what]), VOID);
            due("4 number -1 " + what, x.mend(-1, what, least[what]), VOID);
        }
        due("4 glass's has number 0", x.mend(1, 8, 1), VOID);
        due("4 what -1", x.mend(0, -1, 1), VOID);
        due("4 what 12", x.mend(0, 12, 1), VOID);
    }

    // promise 5
    private static void of() {
        TwoStraws x = new TwoStraws();
        due("5 no straw", x.of(0, 7), VOID);
        x.straw(4, 0);
        due("5 number 1", x.of(1, 0), VOID);
        due("5 number -1", x.of(-1, 0), VOID);
        due("5 what -1", x.of(0, -1), VOID);
        due("5 what 15", x.of(0, 15), VOID);
        due("5 glass number 1", x.of(1, 8), VOID);
        due("5 level number 1", x.of(1, 12), VOID);
        x.ice(7);
        x.second();
        due("5 level", x.of(0, 12), 197);
        due("5 ice", x.of(0, 13), 6);
        due("5 s", x.of(0, 14), 1);
    }

    // promise 6
    private static void feed() {
        TwoStraws x = new TwoStraws();
        due("6 -1", x.feed(-1), -1);
        due("6 256", x.feed(256), -1);
        for (int i = 1; i <= 120; i++) {
            due("6 byte " + i, x.feed(i % 2 == 0 ? 255 : 0), i);
        }
        due("6 full", x.feed('p'), -3);
        due("6 bad ahead of full", x.feed(256), -1);
        due("6 count", x.count(1), 120);
        due("6 fault", x.law(), -100);
        due("6 empty then", x.count(1), 0);
        due("6 again", x.feed('p'), 1);
    }

    // promise 7: faults
    private static void lawFaults() {
        TwoStraws x = new TwoStraws();
        x.straw(6, 0);
        due("7 nothing", x.law(), -100);
        String[] texts = {"p", "p+", "p+w", "", ";", "p;", "p;;p", "12345", "1234", "p?", "p?w", "p?w?t", "?p", "(p", "(p)", "p)", "((((((p))))))",
            "(((((((p", "------p", "-------p", "!!!!!!!p", "(((-!(p", "(((-!((p", "p--p", "p-(-p)", "p<w<t", "(p<w)<t", "p<w&t>l|d=k",
            "p w", "P", "q", "p+*w", "()", "(p?w)", "p|", "p&&w", "p==w", "1;2;3", "1;2?", "p;2?3?", "9(", "pp", "p1", "1p", "p!w", "p-!w", "+p",
            "((((((p)))))", "-(-(-(p)))+------w", "p\0"};
        int[] faults = {-1, 2, -1, 0, 0, 2, 2, 4, -1, 2, -1, 3, 0, 2, -1, 1, -1,
            6, -1, 6, 6, 7, 6, -1, -1, 3, -1, -1,
            1, 0, 0, 2, 1, 2, 2, 2, 2, -1, 4, 5, 1, 1, 1, 1, 1, -1, 0,
            12, -1, 1};
        for (int i = 0; i < texts.length; i++) {
            due("7 " + texts[i], law(x, texts[i]), faults[i] < 0 ? 1 : -100 - faults[i]);
            due("7 empty then", x.count(1), 0);
        }
        law(x, "7");
        law(x, "8+");
        due("7 a fault leaves the law", x.wants(0, 0, 0), 7);
        StringBuilder lines = new StringBuilder("0?1");
        while (lines.length() < 115) {
            lines.append(";0?1");
        }
        due("7 many lines", law(x, lines + ";9"), 1);
        due("7 the last one", x.wants(0, 0, 0), 9);
        due("7 too early at 120", law(x, "p" + "+p".repeat(59) + "+"), -220);
        due("7 long", law(x, "p" + "+p".repeat(59)), 1);
        due("7 held", x.wants(0, 0, 0), 99);
        due("7 deep stack", law(x, "k+(k+(k+(k+(k+(k+(1|0&1<1+2*3))))))"), 1);
        due("7 deep stack worth", x.wants(0, 0, 0), 1);
    }

    // promises 7 and 8: what a text is worth
    private static void lawWorth() {
        TwoStraws x = new TwoStraws();
        x.straw(6, 30);
        x.straw(5, 40);
        x.mend(1, 1, 4);
        String[] texts = {"p", "w", "t", "l/2", "d", "k+1", "2+3*4", "(2+3)*4", "20-5-3", "50/7/2", "50%7*2", "7-9", "-7/2+9", "-7%4+9", "5/0+3", "5%0+3",
            "0|5", "0|0", "3&2", "3&0", "1|0&0", "4<5", "5<4", "5=5", "5>4", "1+2=3", "!0", "!7", "!!7", "-!0+5", "!-0+4", "9999", "0?5;0?6", "0?5;4",
            "1?5;4", "3-3?9;2&2?8;7", "9999*9999*9999*9999", "(0-2)*(-3)", "--4", "0007", "2*3=6&1", "k=1?10;20", "l>100?3;4", "1<2=1?8;9", "4<4", "4>4", "1?0|5", "1?((((((6))))))", "0?1;0?2;3;4"};
        int[] worth = {5, 4, 8, 50, 60, 2, 14, 20, 12, 3, 2, 0, 6, 6, 3, 3,
            1, 0, 1, 0, 1, 1, 0, 1, 1, 1, 1, 0, 1, 4, 5, 99, 0, 4,
            5, 8, 0, 6, 4, 7, 1, 10, 4, -1, 0, 0, 1, 6, 3};
        worth[36] = Math.max(0, Math.min(99, 9999 * 9999 * 9999 * 9999));
        for (int i = 0; i < texts.length; i++) {
            int answer = law(x, texts[i]);
            if (worth[i] < 0) {
                due("7 " + texts[i], answer, -103);
            } else {
                due("7 " + texts[i], answer, 1);
                due("8 " + texts[i], x.wants(1, 100, 8), worth[i]);
            }
        }
        law(x, "5-d");
        due("8 below its reach", x.wants(1, 10, 0), 35);
    }

    // promise 8
    private static void wants() {
        TwoStraws x = new TwoStraws();
        due("8 no straw", x.wants(0, 0, 0), -1);
        x.straw(10, 50);
        due("8 straw 1", x.wants(1, 0, 0), -1);
        due("8 straw -1", x.wants(-1, 0, 0), -1);
        due("8 l -1", x.wants(0, -1, 0), -1);
        due("8 l 1000", x.wants(0, 1000, 0), -1);
        due("8 t -1", x.wants(0, 0, -1), -1);
        due("8 t 1000", x.wants(0, 0, 1000), -1);
        due("8 neither level nor reach hold it", x.wants(0, 0, 0), 10);
        x.mend(0, 6, 999);
        due("8 nor a hole", x.wants(0, 100, 0), 10);
        x.mend(0, 1, 4);
        due("8 cut", x.wants(0, 100, 0), 13);
        due("8 not tired", x.wants(0, 100, 9), 13);
        due("8 tired", x.wants(0, 100, 10), 12);
        x.mend(0, 3, 1);
        due("8 tired out", x.wants(0, 100, 13), 0);
        due("8 not below 0", x.wants(0, 100, 999), 0);
    }

    // promise 9
    private static void glass() {
        TwoStraws x = new TwoStraws();
        due("9 no straw", x.glass(1, 0, 0), -1);
        x.straw(10, 50);
        due("9 n -1", x.glass(-1, 0, 0), -1);
        due("9 n 1000", x.glass(1000, 0, 0), -1);
        due("9 what -1", x.glass(1, 0, -1), -1);
        due("9 what 3", x.glass(1, 0, 3), -1);
        due("9 straw -1", x.glass(1, -1, 0), -1);
        due("9 none yet", x.glass(0, 0, 0), 0);
        due("9 ten seconds", x.glass(10, 0, 0), 100);
        due("9 tires", x.glass(12, 0, 0), 118);
        due("9 down to its reach", x.glass(999, 0, 0), 150);
        due("9 noises", x.glass(20, 0, 2), 4);
        due("9 noises till it stops", x.glass(999, 0, 2), 983);
        due("9 thought changes nothing", x.of(0, 12), 200);
        x.mend(0, 9, 50);
        x.mend(0, 10, 4);
        due("9 not below sugared", x.glass(3, 0, 1), 30);
        x.mend(0, 9, 51);
        due("9 sweet", x.glass(3, 0, 1), 150);
        x.mend(0, 4, 2);
        x.mend(0, 5, 3);
        due("9 breathes", x.glass(7, 0, 0), 40);
        x.mend(0, 7, 6);
        due("9 stops", x.glass(7, 0, 0), 30);
        x.mend(0, 7, 0);
        due("9 never drew", x.glass(9, 0, 0), 0);
        due("9 no noise", x.glass(9, 0, 2), 0);
        x.mend(0, 7, 999);
        x.mend(0, 6, 200);
        due("9 level is no less than its hole", x.glass(1, 0, 0), 10);
        due("9 by half below", x.glass(2, 0, 0), 15);
        x.mend(0, 0, 11);
        x.mend(0, 6, 201);
        due("9 half is cut", x.glass(1, 0, 0), 5);
    }

    // promise 9: more is wanted than there is
    private static void shares() {
        TwoStraws x = new TwoStraws();
        x.straw(20, 0);
        x.straw(10, 0);
        x.fill(20);
        due("9 two thirds", x.glass(1, 0, 0), 13);
        due("9 one third", x.glass(1, 1, 0), 6);
        due("10 what is cut off stays", x.level(1, 0), 1);
        due("9 then none", x.glass(2, 0, 0), 13);
        due("9 no noise over the rest", x.glass(9, 0, 2), 0);
        x.fill(30);
        due("9 just enough", x.glass(1, 0, 0), 20);
        due("9 then a noise", x.glass(2, 1, 2), 1);
        x.fill(25);
        x.mend(0, 2, 20);
        due("9 at most what is above its reach", x.glass(1, 0, 0), 5);
        due("9 the other is not held", x.glass(1, 1, 0), 10);
        x.fill(20);
        due("9 level at its reach", x.glass(1, 0, 2), 1);
        due("9 tried ones tire", law(x, "t+1"), 1);
        due("9 tried, too", x.glass(3, 1, 0), 6);
        x.fill(20);
        x.mend(1, 0, 0);
        x.ice(99);
        x.mend(0, 8, 9);
        law(x, "k=0?t*10");
        due("9 the noise counted as tried", x.glass(2, 0, 0), 9);
        law(x, "k=0?t*3");
        due("9 one second tried", x.glass(2, 0, 0), 3);
    }

    // promise 10
    private static void level() {
        TwoStraws x = new TwoStraws();
        due("10 n -1", x.level(-1, 0), -1);
        due("10 n 1000", x.level(1000, 0), -1);
        due("10 what 2", x.level(0, 2), -1);
        due("10 what -1", x.level(0, -1), -1);
        due("10 now", x.level(0, 0), 200);
        x.ice(10);
        x.mend(0, 8, 3);
        due("10 melted", x.level(3, 0), 209);
        due("10 ice", x.level(3, 1), 1);
        due("10 no more than there is", x.level(4, 0), 210);
        x.fill(995);
        due("10 brimful", x.level(2, 0), 999);
        due("10 what does not go in stays", x.level(9, 1), 6);
        x.straw(2, 0);
        due("10 drawn first", x.level(2, 0), 997);
        due("10 goes in later", x.level(2, 1), 4);
        due("10 thought changes nothing", x.of(0, 13), 10);
    }

    // promise 11
    private static void empty() {
        TwoStraws x = new TwoStraws();
        due("11 nobody", x.empty(), 0);
        x.ice(5);
        due("11 nobody, ice", x.empty(), 5);
        x.straw(10, 50);
        due("11 down to its reach", x.empty(), 17);
        x.mend(0, 7, 3);
        due("11 stops, ice left", x.empty(), 5);
        x.mend(0, 7, 8);
        due("11 stops", x.empty(), 8);
        x.second();
        due("11 stops from now", x.empty(), 7);
        x.mend(0, 7, 999);
        x.fill(50);
        x.mend(0, 8, 0);
        due("11 ice never melts", x.empty(), -2);
        x.fill(100);
        x.straw(5, 0);
        x.mend(0, 7, 2);
        x.mend(0, 8, 9);
        due("11 one stops, the other goes on", x.empty(), 19);
        TwoStraws y = new TwoStraws();
        y.straw(0, 0);
        due("11 stops at 999", y.empty(), 999);
        y.second();
        due("11 stops 998 from now", y.empty(), 998);
        y.ice(1);
        y.mend(0, 8, 0);
        due("11 not by 999", y.empty(), -2);
    }

    // promise 12
    private static void more() {
        TwoStraws x = new TwoStraws();
        due("12 no straws", x.more(3, 0), -2);
        due("12 no straws, by", x.more(3, 1), 0);
        due("12 n -1", x.more(-1, 0), -1);
        due("12 n 1000", x.more(1000, 1), -1);
        due("12 what 2", x.more(3, 2), -1);
        x.straw(4, 0);
        due("12 alone", x.more(3, 0), 0);
        due("12 alone, by", x.more(3, 1), 0);
        x.straw(6, 0);
        due("12 the second", x.more(3, 0), 1);
        due("12 by", x.more(3, 1), 6);
        x.straw(6, 0);
        due("12 of like ones the least", x.more(3, 0), 1);
        x.mend(2, 0, 8);
        x.mend(1, 0, 1);
        due("12 the third", x.more(3, 0), 2);
        due("12 than the least", x.more(3, 1), 21);
        due("12 none yet", x.more(0, 0), 0);
        due("12 none yet, by", x.more(0, 1), 0);
    }

    // promise 13
    private static void turns() {
        TwoStraws x = new TwoStraws();
        due("13 no straws", x.turns(1, 10, 0), -1);
        x.straw(1, 0);
        x.straw(5, 0);
        x.straw(7, 0);
        due("13 n -1", x.turns(-1, 10, 0), -1);
        due("13 n 1000", x.turns(1000, 10, 0), -1);
        due("13 m 0", x.turns(1, 2, 0), -1);
        due("13 m 61", x.turns(1, 610, 0), -1);
        due("13 first 3", x.turns(1, 13, 0), -1);
        due("13 mf -10", x.turns(1, -10, 0), -1);
        due("13 straw 3", x.turns(1, 10, 3), -1);
        due("13 straw -1", x.turns(1, 10, -1), -1);
        due("13 none", x.turns(0, 10, 0), 0);
        due("13 by twos", x.turns(5, 20, 2), 7);
        due("13 by twos, the second", x.turns(5, 20, 1), 10);
        due("13 the third first", x.turns(3, 12, 0), 1);
        due("13 the next is behind it", x.turns(2, 12, 1), 0);
        due("13 round again", x.turns(5, 11, 1), 10);
        x.mend(1, 7, 0);
        due("13 without stops", x.turns(5, 20, 1), 10);
        x.mend(1, 4, 1);
        x.mend(1, 5, 1);
        due("13 breathes by the glass's seconds", x.turns(5, 20, 1), 5);
        due("13 sixty", x.turns(999, 600, 0), 0 + 10 * 1);
    }

    // promise 14
    private static void mark() {
        TwoStraws x = new TwoStraws();
        x.straw(10, 0);
        due("14 like ones", x.mark(0), -1);
        due("14 no such", x.mark(1), -1);
        due("14 no such a", x.mark(10), -1);
        x.straw(10, 0);
        due("14 negative", x.mark(-1), -1);
        due("14 far", x.mark(101), -1);
        due("14 half", x.mark(1), 100);
        x.mend(0, 7, 0);
        due("14 without stops", x.mark(1), 100);
        due("14 the other way", x.mark(10), 100);
        x.mend(1, 2, 150);
        due("14 b reaches less", x.mark(1), 180);
        x.mend(1, 2, 200);
        due("14 b gets none: the beginning", x.mark(1), 200);
        x.fill(7);
        due("14 at once", x.mark(1), 7);
        x.mend(0, 2, 999);
        due("14 a gets none", x.mark(1), 7);
        x.mend(0, 2, 0);
        x.mend(1, 2, 0);
        x.fill(200);
        law(x, "k=0?1;99");
        due("14 the last at which b can still get as much", x.mark(1), 102);
        law(x, "k=0?2;1");
        due("14 as many as there are seconds left", x.mark(1), 134);
        law(x, "k=0?t=0;t*0");
        due("14 once is too much", x.mark(1), 200);
        law(x, "1");
        due("14 one each second", x.mark(1), 151);
    }

    // promise 15
    private static void halves() {
        TwoStraws x = new TwoStraws();
        x.straw(10, 0);
        x.straw(10, 0);
        due("15 what 3", x.halves(1, 3), -1);
        due("15 what -1", x.halves(1, -1), -1);
        due("15 like ones", x.halves(11, 0), -1);
        due("15 negative", x.halves(-1, 0), -1);
        due("15 no such", x.halves(2, 0), -1);
        due("15 the half", x.halves(1, 0), 100);
        due("15 a", x.halves(1, 1), 100);
        due("15 b", x.halves(1, 2), 100);
        x.fill(201);
        due("15 odd: b takes the first if it is more", x.halves(1, 0), 100);
        due("15 odd: a has the less", x.halves(1, 1), 100);
        due("15 odd: b", x.halves(1, 2), 101);
        x.ice(50);
        x.mend(0, 7, 0);
        x.mend(1, 7, 0);
        due("15 without ice and stops", x.halves(1, 2), 101);
        x.mend(1, 2, 150);
        due("15 b wants what it can reach", x.halves(1, 0), 150 - 99);
        due("15 of like glasses b takes the first", x.halves(1, 1), 150);
        due("15 and gets none", x.halves(1, 2), 0);
        x.fill(999);
        x.mend(1, 2, 0);
        law(x, "2");
        due("15 sixty seconds each", x.halves(1, 0), 120);
        due("15 sixty seconds for a", x.halves(1, 1), 120);
        due("15 sixty seconds for b", x.halves(1, 2), 120);
        x.mend(0, 2, 900);
        due("15 a wants most of it", x.halves(1, 0), 0);
        due("15 b takes that", x.halves(1, 1), 0);
        x.fill(0);
        due("15 nothing", x.halves(1, 0), 0);
        due("15 nothing for a", x.halves(1, 1), 0);
    }

    // promise 16
    private static void reachFor() {
        TwoStraws x = new TwoStraws();
        due("16 no straw", x.reachFor(0, 1, 0), -1);
        x.straw(10, 50);
        due("16 n -1", x.reachFor(0, -1, 0), -1);
        due("16 n 61", x.reachFor(0, 61, 0), -1);
        due("16 what -1", x.reachFor(0, 1, -1), -1);
        due("16 what 4", x.reachFor(0, 1, 4), -1);
        due("16 none", x.reachFor(0, 0, 0), 0);
        due("16 none, that", x.reachFor(0, 0, 1), 0);
        due("16 all", x.reachFor(0, 60, 0), 0);
        due("16 all, that", x.reachFor(0, 60, 1), 200);
        due("16 kept as it was", x.of(0, 2), 50);
        due("16 no change", x.count(2), 0);
        law(x, "d>100?1;9");
        due("16 deeper draws less", x.reachFor(0, 2, 0), 100);
        due("16 that", x.reachFor(0, 2, 1), 18);
        x.mend(0, 9, 100);
        x.mend(0, 10, 9);
        due("16 sweeter", x.reachFor(0, 2, 2), 99);
        due("16 how sweet", x.reachFor(0, 2, 3), 100);
        due("16 not by how sweet", x.reachFor(0, 2, 0), 100);
        due("16 not how sweet", x.reachFor(0, 2, 1), 18);
        law(x, "d=3?2");
        x.mend(0, 9, 0);
        x.ice(99);
        x.mend(0, 8, 9);
        due("16 above the level of now", x.reachFor(0, 5, 0), 197);
        law(x, "l>235&d=3?2");
        due("16 what ice brings", x.reachFor(0, 5, 0), 233);
        due("16 what ice brings, that", x.reachFor(0, 5, 1), 2);
    }

    // promise 17
    private static void slow() {
        TwoStraws x = new TwoStraws();
        due("17 no straw", x.slow(0, 1), -1);
        x.straw(10, 100);
        due("17 n -1", x.slow(0, -1), -1);
        due("17 n 61", x.slow(0, 61), -1);
        due("17 none", x.slow(0, 0), 0);
        due("17 as it is", x.slow(0, 5), 10);
        due("17 slowly is enough", x.slow(0, 50), 4);
        due("17 kept as it was", x.of(0, 0), 10);
        x.mend(0, 7, 2);
        due("17 stops as it does", x.slow(0, 50), 10);
        x.mend(0, 7, 999);
        law(x, "p*(10-p)");
        due("17 the law likes less", x.slow(0, 1), 5);
    }

    // promise 18
    private static void both() {
        TwoStraws x = new TwoStraws();
        due("18 none", x.both(1, 0), -5);
        x.straw(10, 0);
        due("18 one", x.both(1, 1), -5);
        due("18 bad ahead of state", x.both(61, 1), -1);
        x.straw(10, 0);
        due("18 n -1", x.both(-1, 0), -1);
        due("18 what 2", x.both(1, 2), -1);
        due("18 what -1", x.both(1, -1), -1);
        due("18 nothing to gain", x.both(0, 0), 0);
        due("18 nothing to gain, all", x.both(0, 1), 0);
        due("18 enough for both", x.both(2, 0), 1010);
        x.fill(5);
        due("18 each takes more", x.both(1, 0), 404);
        due("18 all of it", x.both(1, 1), 5);
        due("18 kept as it was", x.of(0, 0), 10);
        due("18 kept as it was, too", x.of(1, 0), 10);
        x.mend(1, 2, 5);
        x.mend(0, 9, 5);
        due("18 the other can't", x.both(1, 0), 500);
        law(x, "k=0?p");
        due("18 by the law", x.both(1, 1), 500);
        x.fill(200);
        x.mend(0, 0, 1);
        x.mend(1, 0, 1);
        x.mend(1, 2, 0);
        law(x, "t=0?p*(k+1);k=0?(l=200|l=197)*50;(l=199|l=198)*50");
        due("18 all the same", x.both(2, 1), 101);
        due("18 one wants to be like the other, who does not", x.both(2, 0), -2);
    }

    // promise 18: unlike strengths, three straws, stops
    private static void bothUnlike() {
        TwoStraws x = new TwoStraws();
        x.straw(20, 0);
        x.straw(3, 0);
        due("18 unlike", x.both(1, 0), 2003);
        due("18 unlike, all", x.both(1, 1), 2003);
        x.mend(0, 0, 3);
        x.mend(1, 0, 20);
        due("18 unlike the other way", x.both(1, 0), 320);
        due("18 unlike the other way, all", x.both(1, 1), 320);
        x.mend(0, 7, 0);
        due("18 one has stopped", x.both(1, 0), 20);
        due("18 one has stopped, all", x.both(1, 1), 20);
        x.mend(0, 7, 999);
        x.straw(20, 0);
        x.fill(20);
        law(x, "k=2?99;p");
        due("18 beside a third", x.both(1, 1), 20);
        x.mend(0, 9, 1);
        x.mend(1, 2, 1);
        x.mend(0, 10, 9);
        x.fill(3);
        x.mend(2, 7, 0);
        law(x, "p");
        due("18 the sweeter one's", x.both(1, 1), 300);
    }

    // promise 19
    private static void holeFor() {
        TwoStraws x = new TwoStraws();
        due("19 no straw", x.holeFor(0, 1, 1), VOID);
        x.straw(10, 0);
        due("19 hole -1", x.holeFor(0, -1, 1), VOID);
        due("19 hole 1000", x.holeFor(0, 1000, 1), VOID);
        due("19 n -1", x.holeFor(0, 1, -1), VOID);
        due("19 n 61", x.holeFor(0, 1, 61), VOID);
        due("19 nobody else", x.holeFor(0, 999, 60), 0);
        x.straw(10, 0);
        due("19 half of his for the other", x.holeFor(0, 999, 60), 34);
        due("19 half of the other's for him", x.holeFor(1, 999, 60), 34);
        due("19 none in time", x.holeFor(0, 999, 5), 0);
        x.mend(0, 6, 999);
        due("19 than without one", x.holeFor(0, 999, 60), 34);
        due("19 kept as it was", x.of(0, 6), 999);
        law(x, "k=0?10;l<190?0;10");
        due("19 a loss", x.holeFor(0, 0, 3), 0);
        law(x, "k=0?10;l>185?0;10");
        due("19 less for the other", x.holeFor(0, 999, 3), -10);
    }

    // promise 20
    private static void stopFor() {
        TwoStraws x = new TwoStraws();
        due("20 no straw", x.stopFor(0), -1);
        x.straw(10, 170);
        due("20 -1", x.stopFor(-1), -1);
        due("20 three seconds", x.stopFor(0), 3);
        x.mend(0, 7, 0);
        due("20 than if it never stopped", x.stopFor(0), 3);
        due("20 kept as it was", x.of(0, 7), 0);
        x.mend(0, 7, 999);
        x.second();
        due("20 the glass's second", x.stopFor(0), 3);
        x.second();
        x.second();
        due("20 gets none", x.stopFor(0), 0);
        x.fill(999);
        x.mend(0, 2, 0);
        x.mend(0, 3, 99);
        due("20 all 99", x.stopFor(0), 99);
        x.second();
        due("20 99 from now", x.stopFor(0), 100);
    }

    // promise 21
    private static void judge() {
        TwoStraws x = new TwoStraws();
        x.straw(10, 170);
        due("21 shelf -1", x.judge(-1), -1);
        due("21 shelf 6", x.judge(6), -1);
        due("21 nothing", x.judge(0), -11);
        x.row(0, 2, 3);
        due("21 ints", x.judge(0), -12);
        x.body(0);
        x.keep(0, 0);
        due("21 a sip", x.judge(0), -12);
        rings(x, 0);
        due("21 none told", x.judge(0), -2);
        rings(x, 0, 190, 180, 170, 170);
        due("21 so", x.judge(0), -2);
        rings(x, 0, 190, 180, 170, 169);
        due("21 the fourth", x.judge(0), 3);
        rings(x, 0, 191, 180, 170, 169);
        due("21 the first", x.judge(0), 0);
        x.second();
        rings(x, 0, 180, 170, 170);
        due("21 from now on", x.judge(0), -2);
    }

    // promise 22
    private static void who() {
        TwoStraws x = new TwoStraws();
        due("22 what 2", x.who(0, 2), -1);
        due("22 what -1", x.who(0, -1), -1);
        due("22 shelf 6", x.who(6, 0), -1);
        due("22 nothing", x.who(0, 0), -11);
        x.row(0, 0, 3);
        due("22 bytes", x.who(0, 1), -12);
        x.straw(5, 0);
        x.straw(5, 0);
        x.straw(10, 0);
        rings(x, 1, 190, 180);
        due("22 two sets", x.who(1, 0), 2);
        due("22 the least", x.who(1, 1), 3);
        rings(x, 1, 180, 160);
        due("22 all", x.who(1, 1), 7);
        rings(x, 1, 200);
        due("22 nobody", x.who(1, 1), 0);
        rings(x, 1, 201);
        due("22 none", x.who(1, 0), 0);
        due("22 none, the least", x.who(1, 1), -2);
        rings(x, 1);
        due("22 all sets", x.who(1, 0), 8);
        x.mend(2, 7, 1);
        rings(x, 1, 190, 190);
        due("22 stops as it does", x.who(1, 1), 4);
    }

    // promise 23
    private static void since() {
        TwoStraws x = new TwoStraws();
        due("23 no straw", x.since(0, 0), -1);
        x.straw(5, 0);
        x.straw(10, 0);
        due("23 shelf 6", x.since(6, 0), -1);
        due("23 straw 2", x.since(0, 2), -1);
        due("23 nothing", x.since(0, 0), -11);
        x.row(0, 4, 3);
        due("23 booleans", x.since(0, 0), -12);
        rings(x, 0, 185, 175, 165);
        due("23 behind one", x.since(0, 0), 1);
        due("23 not the other", x.since(0, 1), -2);
        rings(x, 0, 190, 180, 170);
        due("23 at once", x.since(0, 0), 0);
        rings(x, 0, 185, 170, 155);
        due("23 not in that time", x.since(0, 0), 3);
        x.mend(0, 7, 1);
        due("23 whatever it stops at", x.since(0, 0), 3);
        due("23 kept as it was", x.of(0, 7), 1);
        due("23 the others as they are", x.since(0, 1), -2);
        x.mend(0, 7, 999);
        x.second();
        rings(x, 0, 170, 160);
        due("23 from now", x.since(0, 0), 1);
        rings(x, 0);
        due("23 none told", x.since(0, 1), 0);
    }

    // promise 24
    private static void drawn() {
        TwoStraws x = new TwoStraws();
        due("24 no straw", x.drawn(1, 1, 0), -1);
        due("24 left", x.drawn(1, 2, -1), 400);
        x.straw(1, 0);
        due("24 n 0", x.drawn(1, 0, 0), -1);
        due("24 n 21", x.drawn(1, 21, 0), -1);
        due("24 straw -2", x.drawn(1, 1, -2), -1);
        due("24 straw 1", x.drawn(1, 1, 1), -1);
        due("24 no hiccups", x.drawn(1, 20, 0), 200);
        x.mend(0, 11, 12);
        due("24 only hiccups", x.drawn(1, 20, 0), 0);
        due("24 all left", x.drawn(1, 20, -1), 4000);
        x.mend(0, 11, 5);
        law(x, "1");
        int z = 77;
        int got = 0;
        for (int i = 0; i < 120; i++) {
            z = z * 1103515245 + 12345;
            got += (z >>> 8) % 12 < 5 ? 0 : 1;
        }
        due("24 by the seed", x.drawn(77, 2, 0), got);
        due("24 by the seed, left", x.drawn(77, 2, -1), 400 - got);
        law(x, "t=59?50");
        for (int seed = 0; seed < 12; seed++) {
            z = seed;
            for (int i = 0; i < 60; i++) {
                z = z * 1103515245 + 12345;
            }
            due("24 hiccups are tried", x.drawn(seed, 1, 0), (z >>> 8) % 12 < 5 ? 0 : 50);
        }
        x.mend(0, 11, 0);
        x.mend(0, 7, 3);
        law(x, "1");
        due("24 stops", x.drawn(1, 2, 0), 6);
        x.mend(0, 2, 200);
        due("24 not in deed", x.led(0, 2), 0);
        due("24 changes nothing", x.of(0, 12), 200);
    }

    // promise 25
    private static void second() {
        TwoStraws x = new TwoStraws();
        x.straw(10, 0);
        x.mend(0, 11, 12);
        due("25 without hiccups", x.second(), 190);
        due("25 again", x.second(), 180);
        due("25 s", x.of(0, 14), 2);
        x.mend(0, 7, 2);
        due("25 stopped", x.second(), 180);
        x.mend(0, 7, 999);
        due("25 goes on", x.second(), 170);
        law(x, "t");
        due("25 tried three times", x.second(), 167);
        TwoStraws y = new TwoStraws();
        for (int i = 0; i < 500; i++) {
            y.second();
        }
        due("25 five hundred", y.of(0, 14), 500);
        for (int i = 500; i < 999; i++) {
            y.second();
        }
        due("25 no more", y.second(), -5);
        due("25 999", y.of(0, 14), 999);
    }

    // promise 26
    private static void fill() {
        TwoStraws x = new TwoStraws();
        x.straw(10, 0);
        x.ice(9);
        due("26 -1", x.fill(-1), -1);
        due("26 1000", x.fill(1000), -1);
        due("26 not counted", x.led(0, 4), 0);
        x.second();
        x.second();
        due("26 what it was", x.fill(999), 182);
        due("26 level", x.of(0, 12), 999);
        due("26 s", x.of(0, 14), 0);
        due("26 ice stays", x.of(0, 13), 7);
        due("26 got stays", x.led(0, 0), 20);
        law(x, "t");
        due("26 t", x.glass(1, 0, 0), 0);
        due("26 seconds stay", x.led(0, 3), 2);
        due("26 fills", x.led(0, 4), 1);
        due("26 to 0", x.fill(0), 999);
    }

    // promise 27
    private static void ice() {
        TwoStraws x = new TwoStraws();
        due("27 0", x.ice(0), -1);
        due("27 100", x.ice(100), -1);
        due("27 -5", x.ice(-5), -1);
        due("27 50", x.ice(50), 50);
        due("27 too much", x.ice(50), -5);
        due("27 bad ahead of state", x.ice(100), -1);
        due("27 49", x.ice(49), 99);
        due("27 full", x.ice(1), -5);
        due("27 stays", x.of(0, 13), 99);
    }

    // promise 28
    private static void led() {
        TwoStraws x = new TwoStraws();
        due("28 no straw", x.led(0, 0), -1);
        x.straw(10, 180);
        due("28 straw 1", x.led(1, 0), -1);
        due("28 straw -1", x.led(-1, 2), -1);
        due("28 what -1", x.led(0, -1), -1);
        due("28 what 5", x.led(0, 5), -1);
        due("28 seconds have number 0", x.led(1, 3), -1);
        due("28 fills have number 0", x.led(1, 4), -1);
        x.mend(0, 9, 181);
        x.second();
        due("28 sweet", x.led(0, 1), 20);
        x.mend(0, 10, 5);
        x.second();
        due("28 sweet as it was drunk", x.led(0, 1), 80);
        x.second();
        x.second();
        due("28 got", x.led(0, 0), 20);
        due("28 noises", x.led(0, 2), 2);
        due("28 seconds", x.led(0, 3), 4);
        x.fill(1);
        x.fill(2);
        due("28 fills", x.led(0, 4), 2);
    }

    // promises 29 and 30
    private static void imageBack() {
        TwoStraws x = new TwoStraws();
        due("30 there is none", x.back(), -5);
        x.straw(10, 0);
        x.ice(20);
        x.second();
        due("29 level", x.image(), 191);
        x.straw(5, 0);
        x.straw(5, 190);
        x.second();
        x.second();
        x.mend(0, 0, 9);
        x.fill(77);
        x.ice(1);
        due("30 level", x.back(), 191);
        due("30 ice", x.of(0, 13), 19);
        due("30 s", x.of(0, 14), 1);
        due("30 got", x.led(0, 0), 10);
        due("30 sweet", x.led(0, 1), 10);
        due("30 of the new one", x.led(1, 0), 0);
        due("30 noises of the new one", x.led(2, 2), 0);
        due("30 seconds", x.led(0, 3), 1);
        due("30 fills", x.led(0, 4), 0);
        due("30 numbers stay", x.of(0, 0), 9);
        due("30 straws stay", x.count(0), 3);
        law(x, "t+1");
        due("30 t", x.glass(1, 0, 0), 2);
        due("30 t of the new one", x.glass(1, 1, 0), 1);
        x.second();
        due("30 once more", x.back(), 191);
        x.second();
        int later = x.image();
        x.second();
        due("30 the later one", x.back(), later);
    }

    // promises 31 and 32
    private static void undoRedo() {
        TwoStraws x = new TwoStraws();
        due("31 none", x.undo(), -5);
        due("32 none", x.redo(), -5);
        x.straw(5, 0);
        x.mend(0, 0, 6);
        x.mend(0, 0, 6);
        due("31 the same number is none", x.count(2), 1);
        x.mend(0, 6, 100);
        x.mend(0, 11, 3);
        due("31 first", x.undo(), 2);
        due("31 hiccups", x.of(0, 11), 0);
        x.second();
        x.straw(1, 1);
        law(x, "3");
        x.fill(5);
        x.mend(0, 0, 6);
        x.mend(0, 0, 21);
        due("32 deeds and same numbers leave it", x.redo(), 0);
        due("32 hiccups", x.of(0, 11), 3);
        due("32 no more", x.redo(), -5);
        due("31 again", x.undo(), 2);
        due("31 again", x.undo(), 1);
        due("31 hole", x.of(0, 6), -1);
        due("31 again", x.undo(), 0);
        due("31 strong", x.of(0, 0), 5);
        due("31 none left", x.undo(), -5);
        due("32 two more", x.redo(), 2);
        x.mend(0, 1, 9);
        due("32 another came", x.redo(), -5);
        due("31 both kept", x.count(2), 2);
        for (int i = 0; i < 41; i++) {
            x.mend(0, 2, i + 1);
        }
        due("31 forty kept", x.count(2), 40);
        for (int i = 39; i >= 0; i--) {
            due("31 of forty", x.undo(), i);
        }
        due("31 the rest", x.undo(), -5);
        due("31 as it was then", x.of(0, 2), 1);
        due("31 the others stay", x.of(0, 1), 9);
        for (int i = 39; i >= 0; i--) {
            due("32 of forty", x.redo(), i);
        }
        due("32 the last", x.of(0, 2), 41);
        TwoStraws y = new TwoStraws();
        y.straw(0, 0);
        y.straw(0, 0);
        for (int i = 0; i < 44; i++) {
            y.mend(i % 2, i % 4 < 2 ? 0 : 2, i / 4 + 1);
        }
        for (int i = 0; i < 40; i++) {
            y.undo();
        }
        due("31 the oldest are forgotten", y.of(0, 0) + 10 * y.of(0, 2) + 100 * y.of(1, 0) + 1000 * y.of(1, 2), 1111);
        for (int i = 0; i < 40; i++) {
            y.redo();
        }
        due("32 all again", y.of(0, 0) + 100 * y.of(0, 2) + 10000 * y.of(1, 0) + 1000000 * y.of(1, 2), 11111111);
    }

    // promise 33
    private static void body() {
        TwoStraws x = new TwoStraws();
        due("33 -1", x.body(-1), -1);
        due("33 8", x.body(8), -1);
        for (int i = 0; i < 50; i++) {
            due("33 number", x.body(i % 8), i);
        }
        due("33 full", x.body(0), -3);
        due("33 bad ahead of full", x.body(8), -1);
        due("33 count", x.count(3), 50);
    }

    // promises 34 and 35
    private static void act() {
        TwoStraws x = new TwoStraws();
        due("34 none", x.act(0, 0, 5), 0);
        for (int kind = 0; kind < 8; kind++) {
            x.body(kind);
        }
        acts(x, 0, 0, 5, 1);
        acts(x, 0, 1, 10, 10, 1);
        acts(x, 0, 2, 5, 11);
        acts(x, 0, 3, 9, 2, 10, 1, 11);
        acts(x, 1, 0, 9, 20, 1);
        acts(x, 1, 1, 18, 10, 20, 1);
        acts(x, 2, 1, -14, 30, 10, 1);
        acts(x, 3, 1, -18, 41, 30, 10, 1);
        acts(x, 3, 2, 18, 40, 11);
        acts(x, 4, 2, -8, 50, 11, 20, 1);
        acts(x, 5, 3, -37, 60, 2, 41, 30, 10, 1, 40, 11);
        acts(x, 6, 0, 22, 70, 1);
        acts(x, 7, 1, 23, 80, 10, 20, 1, 50, 11, 20, 1);
        acts(x, 7, 3, 28, 81, 2, 80, 10, 20, 1, 50, 11, 20, 1, 50, 11, 20, 1);
        acts(x, 1, 2, 4, 11);
        acts(x, 1, 3, 18, 2, 10, 20, 1, 11);
        acts(x, 2, 0, 7, 1);
        acts(x, 2, 2, 7, 11);
        acts(x, 2, 3, -17, 2, 30, 10, 1, 11);
        acts(x, 3, 0, 8, 1);
        acts(x, 3, 3, -24, 2, 41, 30, 10, 1, 40, 11);
        acts(x, 4, 0, 12, 20, 1);
        acts(x, 4, 1, 24, 10, 20, 1);
        acts(x, 4, 3, 28, 2, 10, 20, 1, 50, 11, 20, 1);
        acts(x, 5, 0, 10, 1);
        acts(x, 5, 1, -22, 41, 30, 10, 1);
        acts(x, 5, 2, 0, 40, 11);
        acts(x, 6, 1, 44, 10, 70, 1);
        acts(x, 6, 2, 3, 11);
        acts(x, 6, 3, 37, 2, 10, 70, 1, 11);
        acts(x, 7, 0, 15, 20, 1);
        acts(x, 7, 2, -10, 50, 11, 20, 1);
        due("34 wraps", x.act(0, 1, Integer.MAX_VALUE), -2);
        due("34 no such act", x.act(0, 4, 5), 0);
        due("35 no trace then", x.count(4), 0);
        due("35 no trace then", x.trace(0), -1);
        x.act(0, 0, 1);
        due("34 act -1", x.act(0, -1, 5), 0);
        due("35 no trace then", x.trace(0), -1);
        x.act(0, 0, 1);
        due("34 sip 8", x.act(8, 0, 5), 0);
        due("35 no trace then", x.trace(0), -1);
        due("34 sip -1", x.act(-1, 0, 5), 0);
    }

    private static void acts(TwoStraws x, int sip, int act, int answer, int... trace) {
        String call = "34 act(" + sip + ", " + act + ", 5)";
        due(call, x.act(sip, act, 5), answer);
        due("42 bodies ran, " + call, x.count(4), trace.length);
        for (int i = 0; i < trace.length; i++) {
            due("35 trace " + i + " of " + call, x.trace(i), trace[i]);
        }
        due("35 behind the trace", x.trace(trace.length), -1);
        due("35 ahead of the trace", x.trace(-1), -1);
    }

    // promise 36
    private static void keep() {
        TwoStraws x = new TwoStraws();
        due("36 no such sip", x.keep(0, 0), -1);
        x.body(3);
        due("36 shelf -1", x.keep(-1, 0), -1);
        due("36 shelf 6", x.keep(6, -1), -1);
        due("36 sip -2", x.keep(0, -2), -1);
        due("36 sip 1", x.keep(0, 1), -1);
        due("36 a sip", x.keep(5, 0), 1);
        due("36 is held", x.taken(5, 3), 3);
        x.keep(5, 9);
        due("36 bad changes nothing", x.taken(5, 3), 3);
        due("36 nothing", x.keep(5, -1), 1);
        due("36 nothing is held", x.taken(5, 3), -11);
    }

    // promises 37 to 39
    private static void rowPutElement() {
        TwoStraws x = new TwoStraws();
        due("37 shelf -1", x.row(-1, 0, 1), -1);
        due("37 shelf 6", x.row(6, 0, 1), -1);
        due("37 sort -1", x.row(0, -1, 1), -1);
        due("37 sort 5", x.row(0, 5, 1), -1);
        due("37 n 61", x.row(0, 0, 61), -1);
        due("37 n -1", x.row(0, 0, -1), -14);
        due("37 bad ahead of -14", x.row(0, 5, -1), -1);
        due("38 nothing", x.put(0, 0, 1), -11);
        due("39 nothing", x.element(0, 0), Long.MIN_VALUE);
        due("38 shelf 6", x.put(6, 0, 1), -1);
        due("39 shelf -1", x.element(-1, 0), Long.MIN_VALUE);
        x.body(0);
        x.keep(0, 0);
        due("38 a sip", x.put(0, 99, 1), -12);
        due("39 a sip", x.element(0, 0), Long.MIN_VALUE);
        long v = 0x123456789abcdef0L;
        long[] cut = {(byte) 0xf0, (short) 0xdef0, 0x9abcdef0, v, 1};
        for (int sort = 0; sort < 5; sort++) {
            due("37 row", x.row(0, sort, 60), 1);
            due("39 at first", x.element(0, 59), 0);
            due("38 last", x.put(0, 59, v), 1);
            due("39 cut " + sort, x.element(0, 59), cut[sort]);
            due("38 place 60", x.put(0, 60, v), -13);
            due("38 place -1", x.put(0, -1, v), -13);
            due("39 place 60", x.element(0, 60), Long.MIN_VALUE);
            due("39 place -1", x.element(0, -1), Long.MIN_VALUE);
            x.put(0, 59, 256);
            due("39 lowest bits " + sort, x.element(0, 59), sort == 0 ? 0 : sort == 4 ? 1 : 256);
            x.put(0, 59, -1);
            due("39 sign " + sort, x.element(0, 59), sort == 4 ? 1 : -1);
        }
        x.put(0, 0, 1);
        due("39 true", x.element(0, 0), 1);
        x.put(0, 0, 0);
        due("39 false", x.element(0, 0), 0);
        x.row(0, 3, 1);
        x.put(0, 0, 5);
        x.row(0, 3, 0);
        due("38 no elements", x.put(0, 0, 1), -13);
        x.row(0, 3, 1);
        due("39 anew", x.element(0, 0), 0);
    }

    // promise 40
    private static void shift() {
        TwoStraws x = new TwoStraws();
        x.row(0, 2, 5);
        x.row(1, 2, 3);
        x.row(2, 3, 5);
        x.body(0);
        x.keep(3, 0);
        for (int i = 0; i < 5; i++) {
            x.put(0, i, i + 1);
        }
        due("40 shelf 6", x.shift(6, 0, 0, 0, 1), -1);
        due("40 other -1", x.shift(0, 0, -1, 0, 1), -1);
        due("40 from nothing", x.shift(4, 0, 0, 0, 1), -11);
        due("40 to nothing", x.shift(0, 0, 4, 0, 1), -11);
        due("40 -11 ahead of -12", x.shift(3, 0, 4, 0, 1), -11);
        due("40 from a sip", x.shift(3, 0, 0, 0, 1), -12);
        due("40 to a sip", x.shift(0, 0, 3, 0, 1), -12);
        due("40 two sips", x.shift(3, 0, 3, 0, 1), -12);
        due("40 unlike sorts", x.shift(0, 9, 2, 0, 1), -12);
        due("40 i 6", x.shift(0, 6, 1, 0, 0), -13);
        due("40 i -1", x.shift(0, -1, 1, 0, 1), -13);
        due("40 j 4", x.shift(0, 0, 1, 4, 0), -13);
        due("40 j -1", x.shift(0, 0, 1, -1, 1), -13);
        due("40 too many", x.shift(0, 0, 1, 0, 4), -13);
        due("40 too many from there", x.shift(0, 3, 1, 0, 3), -13);
        due("40 too many to there", x.shift(0, 0, 1, 2, 2), -13);
        due("40 n -1", x.shift(0, 0, 1, 0, -1), -13);
        due("40 wraps", x.shift(0, 1, 1, 1, Integer.MAX_VALUE), -13);
        due("40 none came", x.element(1, 0), 0);
        due("40 none at the end", x.shift(0, 5, 1, 3, 0), 0);
        due("40 three", x.shift(0, 2, 1, 0, 3), 3);
        for (int i = 0; i < 3; i++) {
            due("40 came", x.element(1, i), i + 3);
        }
        due("40 within", x.shift(0, 0, 0, 1, 4), 4);
        int[] shifted = {1, 1, 2, 3, 4};
        for (int i = 0; i < 5; i++) {
            due("40 as they were", x.element(0, i), shifted[i]);
        }
        x.shift(0, 1, 0, 0, 4);
        due("40 down", x.element(0, 3), 4);
        due("40 down", x.element(0, 0), 1);
    }

    // promise 41
    private static void taken() {
        TwoStraws x = new TwoStraws();
        for (int kind = 0; kind < 8; kind++) {
            x.body(kind);
        }
        String[] under = {"0", "01", "02", "023", "014", "0235", "06", "0147"};
        for (int kind = 0; kind < 8; kind++) {
            x.keep(0, kind);
            for (int k = 0; k < 8; k++) {
                due("41 " + kind + " for " + k, x.taken(0, k), under[kind].indexOf('0' + k) >= 0 ? kind : -12);
            }
        }
        due("41 kind 8", x.taken(0, 8), -1);
        due("41 kind -1", x.taken(0, -1), -1);
        due("41 shelf 6", x.taken(6, 0), -1);
        due("41 nothing", x.taken(1, 0), -11);
        x.row(1, 0, 0);
        due("41 a row", x.taken(1, 0), -12);
    }

    // promise 42
    private static void count() {
        TwoStraws x = new TwoStraws();
        x.straw(1, 1);
        x.feed(1);
        x.feed(2);
        x.mend(0, 0, 2);
        x.mend(0, 0, 3);
        x.mend(0, 0, 4);
        for (int i = 0; i < 4; i++) {
            x.body(1);
        }
        x.act(0, 3, 1);
        int[] counts = {1, 2, 3, 4, 5};
        for (int what = 0; what < 5; what++) {
            due("42 count(" + what + ")", x.count(what), counts[what]);
        }
        due("42 -1", x.count(-1), -1);
        due("42 5", x.count(5), -1);
    }
}
