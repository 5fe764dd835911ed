import java.util.ArrayList;
import java.util.Arrays;
import java.util.List;
import java.util.Random;
import java.util.function.IntPredicate;

/** Random runs of calls against a plain model that was written from the document apart from the class. */
public final class ModelTest {
    private static final int RUNS = 250;
    private static final int CALLS = 300;

    public static void main(String[] args) {
        int wrong = 0;
        long calls = 0;
        for (int seed = 0; seed < RUNS && wrong < 10; seed++) {
            Run run = new Run(seed);
            for (int i = 0; i < CALLS && run.wrong == null; i++) {
                run.step();
                calls++;
            }
            if (run.wrong != null) {
                wrong++;
                System.out.println("seed " + seed + ": " + run.told);
                System.out.println("  " + run.wrong);
            }
        }
        System.out.println(calls + " calls, " + wrong + " runs not as the model's");
        if (wrong != 0) {
            System.exit(1);
        }
    }

    // ---------------------------------------------------------------- random calls

    static final class Run {
        final Random random;
        final TwoStraws x = new TwoStraws();
        final Model m = new Model();
        final StringBuilder told = new StringBuilder();
        String wrong;

        Run(int seed) {
            random = new Random(seed);
        }

        int upTo(int most) {
            return random.nextInt(most + 1);
        }

        /** Mostly within, now and then beside it. */
        int about(int least, int most) {
            int die = random.nextInt(40);
            if (die == 0) {
                return least - 1 - (random.nextBoolean() ? 0 : random.nextInt(100));
            }
            if (die == 1) {
                return most + 1 + (random.nextBoolean() ? 0 : random.nextInt(100));
            }
            if (die == 2) {
                return least;
            }
            if (die == 3) {
                return most;
            }
            return least + random.nextInt(most - least + 1);
        }

        int straw() {
            return m.straws.isEmpty() ? about(0, 2) : about(0, m.straws.size() - 1);
        }

        void due(String call, long got, long want) {
            told.append(call).append(' ');
            if (got != want && wrong == null) {
                wrong = call + " answered " + got + ", the model " + want;
            }
        }

        void step() {
            switch (random.nextInt(45)) {
                case 0: { int a = about(0, 20), b = upTo(3) == 0 ? about(0, 999) : about(0, 60); due("straw(" + a + ", " + b + ")", x.straw(a, b), m.straw(a, b)); break; }
                case 1: { int a = about(0, 5), b = about(0, 9), c = about(1, 3); due("straws(" + a + ", " + b + ", " + c + ")", x.straws(a, b, c), m.strawsFrom(a, b, c)); break; }
                case 2: case 3: case 4: case 5: mendAny(); break;
                case 6: { int a = straw(), b = about(0, 14); due("of(" + a + ", " + b + ")", x.of(a, b), m.of(a, b)); break; }
                case 7: case 8: text(); break;
                case 9: { int a = straw(), b = about(0, 999), c = about(0, 999); due("wants(" + a + ", " + b + ", " + c + ")", x.wants(a, b, c), m.wantsCall(a, b, c)); break; }
                case 10: case 11: { int a = upTo(3) == 0 ? about(0, 999) : about(0, 70), b = straw(), c = about(0, 2); due("glass(" + a + ", " + b + ", " + c + ")", x.glass(a, b, c), m.glass(a, b, c)); break; }
                case 12: { int a = about(0, 999), b = about(0, 1); due("level(" + a + ", " + b + ")", x.level(a, b), m.levelCall(a, b)); break; }
                case 13: due("empty()", x.empty(), m.empty()); break;
                case 14: { int a = about(0, 300), b = about(0, 1); due("more(" + a + ", " + b + ")", x.more(a, b), m.more(a, b)); break; }
                case 15: { int a = about(0, 200), b = about(10, 609), c = straw(); b = upTo(2) == 0 ? b : b / 10 * 10 + upTo(3); due("turns(" + a + ", " + b + ", " + c + ")", x.turns(a, b, c), m.turns(a, b, c)); break; }
                case 16: { int a = pair(); due("mark(" + a + ")", x.mark(a), m.mark(a)); break; }
                case 17: if (upTo(2) == 0) { int a = pair(), b = about(0, 2); due("halves(" + a + ", " + b + ")", x.halves(a, b), m.halves(a, b)); } break;
                case 18: if (upTo(4) == 0) { int a = straw(), b = about(0, 60), c = about(0, 3); due("reachFor(" + a + ", " + b + ", " + c + ")", x.reachFor(a, b, c), m.reachFor(a, b, c)); } break;
                case 19: { int a = straw(), b = about(0, 60); due("slow(" + a + ", " + b + ")", x.slow(a, b), m.slow(a, b)); break; }
                case 20: if (upTo(2) == 0) { int a = about(0, 60), b = about(0, 1); due("both(" + a + ", " + b + ")", x.both(a, b), m.both(a, b)); } break;
                case 21: { int a = straw(), b = about(0, 999), c = about(0, 60); due("holeFor(" + a + ", " + b + ", " + c + ")", x.holeFor(a, b, c), m.holeFor(a, b, c)); break; }
                case 22: { int a = straw(); due("stopFor(" + a + ")", x.stopFor(a), m.stopFor(a)); break; }
                case 23: case 24: rings(); break;
                case 25: { int a = random.nextInt(), b = about(1, 20), c = upTo(2) == 0 ? -1 : straw(); due("drawn(" + a + ", " + b + ", " + c + ")", x.drawn(a, b, c), m.drawn(a, b, c)); break; }
                case 26: case 27: case 28: due("second()", x.second(), m.second()); break;
                case 29: { int a = about(0, 999); due("fill(" + a + ")", x.fill(a), m.fill(a)); break; }
                case 30: { int a = about(1, 99); due("ice(" + a + ")", x.ice(a), m.iceCall(a)); break; }
                case 31: case 32: { int b = about(0, 4), a = b > 2 ? about(0, 0) : straw(); due("led(" + a + ", " + b + ")", x.led(a, b), m.led(a, b)); break; }
                case 33: due("image()", x.image(), m.image()); break;
                case 34: due("back()", x.back(), m.back()); break;
                case 35: for (int i = upTo(4); i >= 0; i--) { due("undo()", x.undo(), m.undo()); } break;
                case 36: for (int i = upTo(4); i >= 0; i--) { due("redo()", x.redo(), m.redo()); } break;
                case 37: { int a = about(0, 7); due("body(" + a + ")", x.body(a), m.body(a)); break; }
                case 38: acts(); break;
                case 39: { int a = about(0, 5), b = m.sips.isEmpty() ? about(-1, 2) : about(-1, m.sips.size() - 1); due("keep(" + a + ", " + b + ")", x.keep(a, b), m.keep(a, b)); break; }
                case 40: { int a = about(0, 5), b = about(0, 4), c = upTo(2) == 0 ? about(0, 60) : about(0, 9); due("row(" + a + ", " + b + ", " + c + ")", x.row(a, b, c), m.row(a, b, c)); break; }
                case 41: for (int i = upTo(8); i >= 0; i--) { int a = about(0, 5), b = about(0, 9); long v = upTo(2) == 0 ? random.nextLong() : about(0, 9); due("put(" + a + ", " + b + ", " + v + ")", x.put(a, b, v), m.put(a, b, v)); } break;
                case 42: { int a = about(0, 5), b = about(0, 9); due("element(" + a + ", " + b + ")", x.element(a, b), m.element(a, b)); break; }
                case 43: { int a = about(0, 5), b = about(0, 9), c = about(0, 5), d = about(0, 9), e = about(0, 5); due("shift(" + a + ", " + b + ", " + c + ", " + d + ", " + e + ")", x.shift(a, b, c, d, e), m.shift(a, b, c, d, e)); break; }
                default: { int a = about(0, 5), b = about(0, 7), c = about(0, 4); due("taken(" + a + ", " + b + ")", x.taken(a, b), m.taken(a, b)); due("count(" + c + ")", x.count(c), m.count(c)); break; }
            }
        }

        int pair() {
            int most = Math.max(1, m.straws.size() - 1);
            return upTo(20) == 0 ? about(0, 99) : 10 * upTo(most) + upTo(most);
        }

        void mendAny() {
            int what = about(0, 11);
            int number = what < 8 ? straw() : about(0, 0);
            int w = Math.max(0, Math.min(11, what));
            int v = w == 2 && upTo(2) != 0 ? about(0, 80) : w == 7 && upTo(1) == 0 ? about(0, 60) : about(Model.LEAST[w], Model.MOST[w]);
            due("mend(" + number + ", " + what + ", " + v + ")", x.mend(number, what, v), m.mend(number, what, v));
        }

        void acts() {
            int a = m.sips.isEmpty() ? about(0, 1) : about(0, m.sips.size() - 1);
            int b = about(0, 3);
            int v = random.nextInt();
            due("act(" + a + ", " + b + ", " + v + ")", x.act(a, b, v), m.act(a, b, v));
            for (int i = -1; i < 16; i++) {
                due("trace(" + i + ")", x.trace(i), m.traceCall(i));
            }
            due("count(4)", x.count(4), m.count(4));
        }

        /** Rings of a set, or of a straw that stops, with now and then one that is not so. */
        void rings() {
            int shelf = upTo(5);
            int n = upTo(15);
            if (upTo(5) != 0) {
                due("row(" + shelf + ", 1, " + n + ")", x.row(shelf, 1, n), m.row(shelf, 1, n));
                int set = upTo(1) == 0 ? 7 : upTo(7);
                int stops = upTo(n);
                int stopped = upTo(2);
                Model.Sim sim = m.sim();
                for (int i = 0; i < n; i++) {
                    int at = i;
                    sim.pass(k -> (set >> k & 1) != 0 && (k != stopped || at < stops), k -> false, k -> false);
                    int v = upTo(40) == 0 ? upTo(999) : sim.level;
                    due("put(" + shelf + ", " + i + ", " + v + ")", x.put(shelf, i, v), m.put(shelf, i, v));
                }
            }
            int s = straw();
            due("judge(" + shelf + ")", x.judge(shelf), m.judge(shelf));
            due("who(" + shelf + ", 0)", x.who(shelf, 0), m.who(shelf, 0));
            due("who(" + shelf + ", 1)", x.who(shelf, 1), m.who(shelf, 1));
            due("since(" + shelf + ", " + s + ")", x.since(shelf, s), m.since(shelf, s));
            int bad = about(0, 5);
            due("judge(" + bad + ")", x.judge(bad), m.judge(bad));
        }

        void text() {
            StringBuilder text = new StringBuilder();
            int lines = 1 + upTo(2);
            for (int i = 0; i < lines; i++) {
                if (i > 0) {
                    text.append(';');
                }
                either(text, 0);
                if (upTo(1) == 0) {
                    text.append('?');
                    either(text, 0);
                }
            }
            if (upTo(2) == 0) {
                String signs = "pwtldk0123456789+-*/%()!|&<=>?; x";
                for (int i = upTo(3); i >= 0; i--) {
                    int at = upTo(text.length());
                    if (upTo(2) == 0 && at < text.length()) {
                        text.deleteCharAt(at);
                    } else {
                        text.insert(at, signs.charAt(random.nextInt(signs.length())));
                    }
                }
            }
            for (int i = 0; i < text.length(); i++) {
                int c = upTo(400) == 0 ? about(0, 255) : text.charAt(i);
                due("feed(" + c + ")", x.feed(c), m.feed(c));
            }
            if (upTo(15) != 0) {
                due("law()", x.law(), m.lawCall());
            }
        }

        void either(StringBuilder text, int depth) {
            one(text, depth);
            for (int i = upTo(2); i > 0; i--) {
                text.append("+-*/%|&<=>+-*+-*".charAt(upTo(15)));
                one(text, depth);
            }
        }

        void one(StringBuilder text, int depth) {
            int die = upTo(12);
            if (die < 6) {
                text.append("pwtldk".charAt(upTo(5)));
            } else if (die < 9) {
                text.append(upTo(3) == 0 ? upTo(9999) : upTo(20));
            } else if (depth < 7 && die < 11) {
                text.append('(');
                either(text, depth + 1);
                text.append(')');
            } else if (depth < 7) {
                text.append(die == 11 ? '-' : '!');
                one(text, depth + 1);
            } else {
                text.append('p');
            }
        }
    }

    // ---------------------------------------------------------------- the model

    static final class Straw {
        int[] n = {0, 3, 0, 10, 60, 0, -1, 999};
        int t, got, sweet, noises;

        Straw copy() {
            Straw c = new Straw();
            c.n = n.clone();
            c.t = t;
            return c;
        }
    }

    static final class Refused extends Exception {
        private static final long serialVersionUID = 1;
        final int answer;

        Refused(int answer) {
            this.answer = answer;
        }
    }

    static final class Model {
        static final int[] LEAST = {0, 1, 0, 1, 1, 0, -1, 0, 0, 0, 0, 0};
        static final int[] MOST = {20, 9, 999, 99, 60, 60, 999, 999, 9, 999, 9, 12};
        static final int BAD = -1, NOT = -2, FULL = -3, STATE = -5, VOID = -2000000000;

        int level = 200, ice = 0, s = 0, seconds = 0, fills = 0;
        int[] ofGlass = {1, 0, 1, 0};
        List<Straw> straws = new ArrayList<>();
        String tape = "";
        String law = null;
        List<int[]> undone = new ArrayList<>();
        List<int[]> redone = new ArrayList<>();
        List<int[]> image = null;
        List<Sip> sips = new ArrayList<>();
        List<Integer> trace = new ArrayList<>();
        Object[] shelves = new Object[6];

        boolean is(int v, int least, int most) {
            return v >= least && v <= most;
        }

        boolean isStraw(int k) {
            return is(k, 0, straws.size() - 1);
        }

        // ---- seconds

        final class Sim {
            int level = Model.this.level, ice = Model.this.ice, s = Model.this.s;
            List<Straw> all = new ArrayList<>();

            Sim() {
                for (Straw one : straws) {
                    all.add(one.copy());
                }
            }

            int got(int k) {
                return all.get(k).got;
            }

            Sim run(int n) {
                for (int i = 0; i < n; i++) {
                    pass(k -> true, k -> false, k -> false);
                }
                return this;
            }

            Sim alone(int straw, int n) {
                for (int i = 0; i < n; i++) {
                    pass(k -> k == straw, k -> true, k -> false);
                }
                return this;
            }

            void pass(IntPredicate who, IntPredicate withoutStops, IntPredicate hiccups) {
                long[] want = new long[all.size()];
                long sum = 0;
                for (int k = 0; k < all.size(); k++) {
                    Straw one = all.get(k);
                    boolean draws = who.test(k) && (withoutStops.test(k) || s < one.n[7]) && s % (one.n[4] + one.n[5]) < one.n[4];
                    if (!draws) {
                        continue;
                    }
                    if (!hiccups.test(k)) {
                        if (level <= one.n[2]) {
                            one.noises++;
                        } else {
                            int w = wants(one, k, level, one.t);
                            w = level < one.n[6] ? w / 2 : w;
                            want[k] = Math.min(w, level - one.n[2]);
                        }
                    }
                    one.t++;
                    sum += want[k];
                }
                int before = level;
                for (int k = 0; k < all.size(); k++) {
                    Straw one = all.get(k);
                    int gets = (int) (sum > before ? want[k] * before / sum : want[k]);
                    one.got += gets;
                    one.sweet += gets + (one.n[2] < ofGlass[1] ? gets * ofGlass[2] : 0);
                    level -= gets;
                }
                for (int i = 0; i < ofGlass[0] && ice > 0 && level < 999; i++) {
                    ice--;
                    level++;
                }
                s++;
            }
        }

        Sim sim() {
            return new Sim();
        }

        int wants(Straw one, int k, int l, int t) {
            int w;
            if (law == null) {
                w = one.n[0] * one.n[1] / 3 - t / one.n[3];
            } else {
                w = new Worth(new int[] {one.n[0], one.n[1], t, l, l - one.n[2], k}).text(law);
            }
            return w < 0 ? 0 : w > 99 ? 99 : w;
        }

        // ---- straws, the glass

        int straw(int strong, int reach) {
            if (!is(strong, 0, 20) || !is(reach, 0, 999)) {
                return BAD;
            }
            if (straws.size() == 3) {
                return FULL;
            }
            Straw one = new Straw();
            one.n[0] = strong;
            one.n[2] = reach;
            straws.add(one);
            return straws.size() - 1;
        }

        int strawsFrom(int shelf, int i, int n) {
            if (!is(shelf, 0, 5) || !is(n, 1, 3)) {
                return BAD;
            }
            if (shelves[shelf] == null) {
                return 0;
            }
            if (!(shelves[shelf] instanceof byte[])) {
                return -12;
            }
            byte[] row = (byte[]) shelves[shelf];
            for (int came = 0; came < n; came++) {
                int at = i + 3 * came;
                if (at < 0 || at + 2 >= row.length || !is(row[at + 1], 1, 9) || straw(row[at], row[at + 2]) < 0) {
                    return came;
                }
                straws.get(straws.size() - 1).n[1] = row[at + 1];
            }
            return n;
        }

        int[] home(int number, int what) {
            if (is(what, 0, 7) && isStraw(number)) {
                return straws.get(number).n;
            }
            return is(what, 8, 11) && number == 0 ? ofGlass : null;
        }

        int mend(int number, int what, int v) {
            int[] home = home(number, what);
            if (home == null || !is(v, LEAST[what], MOST[what])) {
                return VOID;
            }
            int was = home[what % 8];
            if (was != v) {
                home[what % 8] = v;
                redone.clear();
                undone.add(new int[] {number, what, was, v});
                if (undone.size() > 40) {
                    undone.remove(0);
                }
            }
            return was;
        }

        int of(int number, int what) {
            int[] home = home(number, what);
            if (home != null) {
                return home[what % 8];
            }
            if (number != 0 || !is(what, 12, 14)) {
                return VOID;
            }
            return what == 12 ? level : what == 13 ? ice : s;
        }

        int feed(int letter) {
            if (!is(letter, 0, 255)) {
                return BAD;
            }
            if (tape.length() == 120) {
                return FULL;
            }
            tape += (char) letter;
            return tape.length();
        }

        int lawCall() {
            int fault = fault(tape);
            if (fault < 0) {
                law = tape;
            }
            tape = "";
            return fault < 0 ? 1 : -100 - fault;
        }

        int wantsCall(int straw, int l, int t) {
            return isStraw(straw) && is(l, 0, 999) && is(t, 0, 999) ? wants(straws.get(straw), straw, l, t) : BAD;
        }

        // ---- a glass in thought

        int glass(int n, int straw, int what) {
            if (!is(n, 0, 999) || !isStraw(straw) || !is(what, 0, 2)) {
                return BAD;
            }
            Straw one = sim().run(n).all.get(straw);
            return what == 0 ? one.got : what == 1 ? one.sweet : one.noises;
        }

        int levelCall(int n, int what) {
            if (!is(n, 0, 999) || !is(what, 0, 1)) {
                return BAD;
            }
            Sim then = sim().run(n);
            return what == 0 ? then.level : then.ice;
        }

        int empty() {
            Sim sim = sim();
            for (int n = 0; n <= 999; n++) {
                boolean any = sim.ice > 0;
                for (Straw one : sim.all) {
                    any |= sim.s < one.n[7] && sim.level > one.n[2];
                }
                if (!any) {
                    return n;
                }
                sim.run(1);
            }
            return NOT;
        }

        int more(int n, int what) {
            if (!is(n, 0, 999) || !is(what, 0, 1)) {
                return BAD;
            }
            if (straws.isEmpty()) {
                return what == 0 ? NOT : 0;
            }
            int[] got = sim().run(n).all.stream().mapToInt(o -> o.got).toArray();
            int most = Arrays.stream(got).max().getAsInt();
            if (what == 1) {
                return most - Arrays.stream(got).min().getAsInt();
            }
            int k = 0;
            while (got[k] != most) {
                k++;
            }
            return k;
        }

        int turns(int n, int mf, int straw) {
            int m = Math.floorDiv(mf, 10);
            int turn = Math.floorMod(mf, 10);
            if (!is(n, 0, 999) || !is(m, 1, 60) || !isStraw(turn) || !isStraw(straw)) {
                return BAD;
            }
            Sim sim = sim();
            int left = m;
            for (int i = 0; i < n; i++) {
                if (left == 0) {
                    turn = turn == straws.size() - 1 ? 0 : turn + 1;
                    left = m;
                }
                sim.alone(turn, 1);
                left--;
            }
            return sim.got(straw);
        }

        boolean isPair(int ab) {
            int a = Math.floorDiv(ab, 10);
            int b = Math.floorMod(ab, 10);
            return isStraw(a) && isStraw(b) && a != b;
        }

        int mark(int ab) {
            if (!isPair(ab)) {
                return BAD;
            }
            int least = Integer.MAX_VALUE;
            for (int n = 0; n <= 99; n++) {
                Sim sim = sim().alone(ab / 10, n);
                int at = sim.level;
                sim.alone(ab % 10, 99 - n);
                if (sim.got(ab / 10) <= sim.got(ab % 10)) {
                    least = Math.min(least, at);
                }
            }
            return least;
        }

        int ofHalf(int straw, int half) {
            Sim sim = sim();
            sim.level = half;
            sim.ice = 0;
            return sim.alone(straw, 60).got(straw);
        }

        int halves(int ab, int what) {
            if (!isPair(ab) || !is(what, 0, 2)) {
                return BAD;
            }
            int a = ab / 10;
            int b = ab % 10;
            int[] best = {-1, -1, -1};
            for (int first = 0; first <= level; first++) {
                int one = ofHalf(b, first);
                int other = ofHalf(b, level - first);
                int[] is = one >= other ? new int[] {first, ofHalf(a, level - first), one} : new int[] {first, ofHalf(a, first), other};
                best = is[1] > best[1] ? is : best;
            }
            return best[what];
        }

        // ---- how deep, how strong

        int reachFor(int straw, int n, int what) {
            if (!isStraw(straw) || !is(n, 0, 60) || !is(what, 0, 3)) {
                return BAD;
            }
            int best = -1;
            int most = -1;
            for (int reach = 0; reach <= 999; reach++) {
                Sim sim = sim();
                sim.all.get(straw).n[2] = reach;
                Straw one = sim.run(n).all.get(straw);
                int is = what < 2 ? one.got : one.sweet;
                if (is > most) {
                    most = is;
                    best = reach;
                }
            }
            return what % 2 == 0 ? best : most;
        }

        int slow(int straw, int n) {
            if (!isStraw(straw) || !is(n, 0, 60)) {
                return BAD;
            }
            int best = 0;
            int most = -1;
            for (int strong = 0; strong <= straws.get(straw).n[0]; strong++) {
                Sim sim = sim();
                sim.all.get(straw).n[0] = strong;
                if (sim.run(n).got(straw) > most) {
                    most = sim.got(straw);
                    best = strong;
                }
            }
            return best;
        }

        int both(int n, int what) {
            if (!is(n, 0, 60) || !is(what, 0, 1)) {
                return BAD;
            }
            if (straws.size() < 2) {
                return STATE;
            }
            int p = straws.get(0).n[0];
            int q = straws.get(1).n[0];
            Sim[][] sims = new Sim[p + 1][q + 1];
            int sweetest = -1;
            int all = -1;
            for (int i = 0; i <= p; i++) {
                for (int j = 0; j <= q; j++) {
                    Sim sim = sim();
                    sim.all.get(0).n[0] = i;
                    sim.all.get(1).n[0] = j;
                    sims[i][j] = sim.run(n);
                    int sweet = sim.all.get(0).sweet + sim.all.get(1).sweet;
                    if (sweet > sweetest) {
                        sweetest = sweet;
                        all = 100 * i + j;
                    }
                }
            }
            if (what == 1) {
                return all;
            }
            for (int i = 0; i <= p; i++) {
                for (int j = 0; j <= q; j++) {
                    boolean so = true;
                    for (int o = 0; o <= 20; o++) {
                        so &= o > p || sims[o][j].got(0) <= sims[i][j].got(0);
                        so &= o > q || sims[i][o].got(1) <= sims[i][j].got(1);
                    }
                    if (so) {
                        return 100 * i + j;
                    }
                }
            }
            return NOT;
        }

        int holeFor(int straw, int hole, int n) {
            if (!isStraw(straw) || !is(hole, 0, 999) || !is(n, 0, 60)) {
                return VOID;
            }
            int more = 0;
            Sim with = sim();
            with.all.get(straw).n[6] = hole;
            Sim without = sim();
            without.all.get(straw).n[6] = -1;
            with.run(n);
            without.run(n);
            for (int k = 0; k < straws.size(); k++) {
                more += k == straw ? 0 : with.got(k) - without.got(k);
            }
            return more;
        }

        int stopFor(int straw) {
            if (!isStraw(straw)) {
                return BAD;
            }
            Sim never = sim();
            never.all.get(straw).n[7] = Integer.MAX_VALUE;
            never.run(99);
            for (int stops = 0;; stops++) {
                Sim sim = sim();
                sim.all.get(straw).n[7] = stops;
                if (sim.run(99).got(straw) >= never.got(straw)) {
                    return stops;
                }
            }
        }

        // ---- rings, draws

        short[] ringsOn(int shelf) throws Refused {
            if (!is(shelf, 0, 5)) {
                throw new Refused(BAD);
            }
            if (shelves[shelf] == null) {
                throw new Refused(-11);
            }
            if (!(shelves[shelf] instanceof short[])) {
                throw new Refused(-12);
            }
            return (short[]) shelves[shelf];
        }

        int unlike(short[] rings, Sim sim, IntPredicate who) {
            for (int i = 0; i < rings.length; i++) {
                sim.pass(who, k -> false, k -> false);
                if (sim.level != rings[i]) {
                    return i;
                }
            }
            return NOT;
        }

        int judge(int shelf) {
            try {
                return unlike(ringsOn(shelf), sim(), k -> true);
            } catch (Refused r) {
                return r.answer;
            }
        }

        int who(int shelf, int what) {
            if (!is(what, 0, 1)) {
                return BAD;
            }
            try {
                short[] rings = ringsOn(shelf);
                List<Integer> fit = new ArrayList<>();
                for (int set = 0; set < Math.pow(2, straws.size()); set++) {
                    int bits = set;
                    if (unlike(rings, sim(), k -> (bits >> k) % 2 == 1) == NOT) {
                        fit.add(set);
                    }
                }
                return what == 0 ? fit.size() : fit.isEmpty() ? NOT : fit.get(0);
            } catch (Refused r) {
                return r.answer;
            }
        }

        int since(int shelf, int straw) {
            if (!isStraw(straw)) {
                return BAD;
            }
            try {
                short[] rings = ringsOn(shelf);
                for (int behind = 0; behind <= rings.length; behind++) {
                    Sim sim = sim();
                    sim.all.get(straw).n[7] = s + behind;
                    if (unlike(rings, sim, k -> true) == NOT) {
                        return behind;
                    }
                }
                return NOT;
            } catch (Refused r) {
                return r.answer;
            }
        }

        int drawn(int seed, int n, int straw) {
            if (!is(n, 1, 20) || straw != -1 && !isStraw(straw)) {
                return BAD;
            }
            int z = seed;
            int sum = 0;
            for (int i = 0; i < n; i++) {
                Sim sim = sim();
                for (int second = 0; second < 60; second++) {
                    boolean[] hiccups = new boolean[3];
                    for (int k = 0; k < straws.size(); k++) {
                        z = z * 1103515245 + 12345;
                        hiccups[k] = (z >>> 8) % 12 < ofGlass[3];
                    }
                    sim.pass(k -> true, k -> false, k -> hiccups[k]);
                }
                sum += straw == -1 ? sim.level : sim.got(straw);
            }
            return sum;
        }

        // ---- in deed

        int second() {
            if (s == 999) {
                return STATE;
            }
            Sim sim = sim().run(1);
            level = sim.level;
            ice = sim.ice;
            s = sim.s;
            seconds++;
            for (int k = 0; k < straws.size(); k++) {
                Straw one = straws.get(k);
                one.t = sim.all.get(k).t;
                one.got += sim.all.get(k).got;
                one.sweet += sim.all.get(k).sweet;
                one.noises += sim.all.get(k).noises;
            }
            return level;
        }

        int fill(int v) {
            if (!is(v, 0, 999)) {
                return BAD;
            }
            int was = level;
            level = v;
            s = 0;
            fills++;
            straws.forEach(one -> one.t = 0);
            return was;
        }

        int iceCall(int v) {
            if (!is(v, 1, 99)) {
                return BAD;
            }
            if (ice + v > 99) {
                return STATE;
            }
            ice += v;
            return ice;
        }

        int led(int number, int what) {
            if (is(what, 3, 4)) {
                return number != 0 ? BAD : what == 3 ? seconds : fills;
            }
            if (!is(what, 0, 2) || !isStraw(number)) {
                return BAD;
            }
            Straw one = straws.get(number);
            return what == 0 ? one.got : what == 1 ? one.sweet : one.noises;
        }

        int image() {
            image = new ArrayList<>();
            image.add(new int[] {level, ice, s, seconds, fills});
            straws.forEach(one -> image.add(new int[] {one.t, one.got, one.sweet, one.noises}));
            return level;
        }

        int back() {
            if (image == null) {
                return STATE;
            }
            int[] glass = image.get(0);
            level = glass[0];
            ice = glass[1];
            s = glass[2];
            seconds = glass[3];
            fills = glass[4];
            for (int k = 0; k < straws.size(); k++) {
                int[] was = k + 1 < image.size() ? image.get(k + 1) : new int[4];
                Straw one = straws.get(k);
                one.t = was[0];
                one.got = was[1];
                one.sweet = was[2];
                one.noises = was[3];
            }
            return level;
        }

        int undo() {
            if (undone.isEmpty()) {
                return STATE;
            }
            int[] change = undone.remove(undone.size() - 1);
            home(change[0], change[1])[change[1] % 8] = change[2];
            redone.add(change);
            return undone.size();
        }

        int redo() {
            if (redone.isEmpty()) {
                return STATE;
            }
            int[] change = redone.remove(redone.size() - 1);
            home(change[0], change[1])[change[1] % 8] = change[3];
            undone.add(change);
            return redone.size();
        }

        // ---- acts, shelves

        int body(int kind) {
            if (!is(kind, 0, 7)) {
                return BAD;
            }
            if (sips.size() == 50) {
                return FULL;
            }
            Sip[] made = {new Sip(), new Deep(), new Slow(), new Holed(), new Bitten(), new Noisy(), new Iced(), new Last()};
            made[kind].n = sips.size();
            made[kind].kind = kind;
            made[kind].trace = trace;
            sips.add(made[kind]);
            return sips.size() - 1;
        }

        int act(int body, int act, int x) {
            trace.clear();
            if (!is(body, 0, sips.size() - 1) || !is(act, 0, 3)) {
                return 0;
            }
            Sip sip = sips.get(body);
            return act == 0 ? sip.draws(x) : act == 1 ? sip.gets(x) : act == 2 ? sip.rests(x) : sip.tells(x);
        }

        int traceCall(int i) {
            return is(i, 0, Math.min(24, trace.size()) - 1) ? trace.get(i) : BAD;
        }

        int keep(int shelf, int body) {
            if (!is(shelf, 0, 5) || !is(body, -1, sips.size() - 1)) {
                return BAD;
            }
            shelves[shelf] = body == -1 ? null : sips.get(body);
            return 1;
        }

        int row(int shelf, int sort, int n) {
            if (!is(shelf, 0, 5) || !is(sort, 0, 4) || n > 60) {
                return BAD;
            }
            try {
                shelves[shelf] = sort == 0 ? new byte[n] : sort == 1 ? new short[n] : sort == 2 ? new int[n] : sort == 3 ? new long[n] : new boolean[n];
                return 1;
            } catch (NegativeArraySizeException e) {
                return -14;
            }
        }

        int put(int shelf, int i, long v) {
            if (!is(shelf, 0, 5)) {
                return BAD;
            }
            Object at = shelves[shelf];
            if (at == null) {
                return -11;
            }
            try {
                if (at instanceof byte[]) {
                    ((byte[]) at)[i] = (byte) v;
                } else if (at instanceof short[]) {
                    ((short[]) at)[i] = (short) v;
                } else if (at instanceof int[]) {
                    ((int[]) at)[i] = (int) v;
                } else if (at instanceof long[]) {
                    ((long[]) at)[i] = v;
                } else {
                    ((boolean[]) at)[i] = v != 0;
                }
                return 1;
            } catch (ClassCastException e) {
                return -12;
            } catch (ArrayIndexOutOfBoundsException e) {
                return -13;
            }
        }

        long element(int shelf, int i) {
            if (!is(shelf, 0, 5) || shelves[shelf] == null || shelves[shelf] instanceof Sip || !is(i, 0, java.lang.reflect.Array.getLength(shelves[shelf]) - 1)) {
                return Long.MIN_VALUE;
            }
            Object at = shelves[shelf];
            return at instanceof boolean[] ? ((boolean[]) at)[i] ? 1 : 0 : java.lang.reflect.Array.getLong(at, i);
        }

        @SuppressWarnings("SuspiciousSystemArraycopy")
        int shift(int shelf, int i, int other, int j, int n) {
            if (!is(shelf, 0, 5) || !is(other, 0, 5)) {
                return BAD;
            }
            try {
                System.arraycopy(shelves[shelf], i, shelves[other], j, n);
                return n;
            } catch (NullPointerException e) {
                return -11;
            } catch (ArrayStoreException e) {
                return -12;
            } catch (ArrayIndexOutOfBoundsException e) {
                return -13;
            }
        }

        int taken(int shelf, int k) {
            if (!is(shelf, 0, 5) || !is(k, 0, 7)) {
                return BAD;
            }
            Class<?>[] kinds = {Sip.class, Deep.class, Slow.class, Holed.class, Bitten.class, Noisy.class, Iced.class, Last.class};
            if (shelves[shelf] == null) {
                return -11;
            }
            return kinds[k].isInstance(shelves[shelf]) ? ((Sip) shelves[shelf]).kind : -12;
        }

        int count(int what) {
            int[] counts = {straws.size(), tape.length(), undone.size(), sips.size(), trace.size()};
            return is(what, 0, 4) ? counts[what] : BAD;
        }
    }

    // ---------------------------------------------------------------- the law, read byte by byte

    /** The place of the fault by what may come next, without a grammar; -1: none. */
    static int fault(String text) {
        List<Character> open = new ArrayList<>();
        List<Boolean> compared = new ArrayList<>(List.of(false));
        boolean wanted = true;
        boolean asked = false;
        int digits = 0;
        for (int i = 0; i < text.length(); i++) {
            char c = text.charAt(i);
            boolean inside = open.contains('(');
            if (wanted) {
                boolean digit = c >= '0' && c <= '9';
                if (digit || "pwtldk".indexOf(c) >= 0) {
                    wanted = false;
                    digits = digit ? 1 : 4;
                    closeSigns(open);
                } else if ("(!-".indexOf(c) >= 0 && open.size() < 6) {
                    open.add(c);
                    if (c == '(') {
                        compared.add(false);
                    }
                } else {
                    return i;
                }
                continue;
            }
            int last = compared.size() - 1;
            if (c >= '0' && c <= '9') {
                if (++digits > 4) {
                    return i;
                }
            } else if (c == ')' && inside) {
                open.remove(open.size() - 1);
                compared.remove(last);
                closeSigns(open);
                digits = 4;
            } else if ("+-*/%".indexOf(c) >= 0) {
                wanted = true;
            } else if ("|&".indexOf(c) >= 0) {
                wanted = true;
                compared.set(last, false);
            } else if ("<=>".indexOf(c) >= 0 && !compared.get(last)) {
                wanted = true;
                compared.set(last, true);
            } else if ((c == '?' && !asked || c == ';') && !inside) {
                wanted = true;
                asked = c == '?';
                compared.set(last, false);
            } else {
                return i;
            }
        }
        return wanted || open.contains('(') ? text.length() : -1;
    }

    static void closeSigns(List<Character> open) {
        while (!open.isEmpty() && open.get(open.size() - 1) != '(') {
            open.remove(open.size() - 1);
        }
    }

    /** What a faultless text is worth, worked out by cutting it at its loosest sign. */
    static final class Worth {
        final int[] names;

        Worth(int[] names) {
            this.names = names;
        }

        int text(String text) {
            for (String line : text.split(";")) {
                int at = line.indexOf('?');
                if (at < 0) {
                    return part(line);
                }
                if (part(line.substring(0, at)) != 0) {
                    return part(line.substring(at + 1));
                }
            }
            return 0;
        }

        int part(String e) {
            for (String signs : new String[] {"|", "&", "<=>", "+-", "*/%"}) {
                int at = lastOutside(e, signs);
                if (at > 0) {
                    return joined(e.charAt(at), part(e.substring(0, at)), part(e.substring(at + 1)));
                }
            }
            char c = e.charAt(0);
            if (c == '(') {
                return part(e.substring(1, e.length() - 1));
            }
            if (c == '!') {
                return part(e.substring(1)) == 0 ? 1 : 0;
            }
            if (c == '-') {
                return -part(e.substring(1));
            }
            int name = "pwtldk".indexOf(c);
            return name >= 0 ? names[name] : Integer.parseInt(e);
        }

        /** The last such sign that stands outside all brackets and behind an operand. */
        int lastOutside(String e, String signs) {
            int depth = 0;
            int found = -1;
            for (int i = 0; i < e.length(); i++) {
                char c = e.charAt(i);
                depth += c == '(' ? 1 : c == ')' ? -1 : 0;
                boolean behind = i > 0 && "+-*/%|&<=>!(".indexOf(e.charAt(i - 1)) < 0;
                if (depth == 0 && behind && signs.indexOf(c) >= 0) {
                    found = i;
                }
            }
            return found;
        }

        int joined(char sign, int a, int b) {
            switch (sign) {
                case '|': return a != 0 || b != 0 ? 1 : 0;
                case '&': return a != 0 && b != 0 ? 1 : 0;
                case '<': return a < b ? 1 : 0;
                case '=': return a == b ? 1 : 0;
                case '>': return a > b ? 1 : 0;
                case '+': return a + b;
                case '-': return a - b;
                case '*': return a * b;
                case '/': return b == 0 ? 0 : a / b;
                default: return b == 0 ? 0 : a % b;
            }
        }
    }

    // ---------------------------------------------------------------- the sips, as classes

    interface Draws {
        int number();

        void ran(int body);

        default int draws(int x) {
            ran(1);
            return x + number();
        }
    }

    interface Tells {
        int gets(int x);

        int rests(int x);

        void ran(int body);

        default int tells(int x) {
            ran(2);
            return gets(x) - rests(1);
        }
    }

    static class Sip implements Draws, Tells {
        int n;
        int kind;
        List<Integer> trace;

        @Override public int number() {
            return n;
        }

        @Override public void ran(int body) {
            trace.add(body);
        }

        @Override public int gets(int x) {
            ran(10);
            return draws(x) * 2;
        }

        @Override public int rests(int x) {
            ran(11);
            return x ^ n;
        }
    }

    static class Deep extends Sip {
        @Override public int draws(int x) {
            ran(20);
            return super.draws(x) + 3;
        }
    }

    static class Slow extends Sip {
        @Override public int gets(int x) {
            ran(30);
            return -super.gets(x);
        }
    }

    static class Holed extends Slow {
        @Override public int rests(int x) {
            ran(40);
            return super.rests(x) * 3;
        }

        @Override public int gets(int x) {
            ran(41);
            return super.gets(x + 1);
        }
    }

    static class Bitten extends Deep {
        @Override public int rests(int x) {
            ran(50);
            return super.rests(x) - draws(2);
        }
    }

    static class Noisy extends Holed {
        @Override public int tells(int x) {
            ran(60);
            return super.tells(x) ^ 5;
        }
    }

    static class Iced extends Sip {
        @Override public int draws(int x) {
            ran(70);
            return super.draws(x) * 2;
        }
    }

    static class Last extends Bitten {
        @Override public int gets(int x) {
            ran(80);
            return super.gets(x) + rests(2);
        }

        @Override public int tells(int x) {
            ran(81);
            return super.tells(x) - 1;
        }
    }
}
