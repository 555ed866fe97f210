import java.util.ArrayList;
import java.util.Arrays;
import java.util.List;
import java.util.Random;
import java.util.TreeMap;
import java.util.TreeSet;

/** Random runs, with fixed seeds, against a slow model that is written from the document's words with sets. */
public final class ModelTests {
    private static final int NONE = -1000000, BAD = -1000001, STATE = -1000002, FULL = -1000003;
    private static final int RUNS = 1500, CALLS = 500;

    record Stretch(int kind, int from, int many, int first) {
        TreeSet<Integer> numbersOf(int line) {
            TreeSet<Integer> numbers = new TreeSet<>();
            int i = line - from;
            if (i < 0 || i >= many) return numbers;
            if (kind == 1) numbers.add(first + i);
            if (kind == 2) numbers.addAll(List.of(first + 2 * i, first + 2 * i + 1));
            if (kind == 3) numbers.add(first + i / 2);
            if (kind == 4) numbers.add(first + many - 1 - i);
            if (kind == 5) numbers.add(first);
            return numbers;
        }

        int greatest() {
            TreeSet<Integer> all = new TreeSet<>();
            for (int line = from; line < from + many; line++) all.addAll(numbersOf(line));
            return all.last();
        }

        boolean shares(Stretch o) {
            return from < o.from + o.many && o.from < from + many;
        }
    }

    record Citation(int edition, int kind, int from, int to) {
        int last() {
            return kind == 0 ? to : from + kind;
        }
    }

    record Seen(int number, int line) {}

    record World(int lines, List<List<Stretch>> editions, TreeMap<Integer, Citation> citations, List<Seen> seen) {
        World copy() {
            List<List<Stretch>> all = new ArrayList<>();
            for (List<Stretch> e : editions) all.add(new ArrayList<>(e));
            return new World(lines, all, new TreeMap<>(citations), new ArrayList<>(seen));
        }

        boolean has(int e) {
            return e >= 0 && e < editions.size();
        }

        boolean has(int e, int s) {
            return has(e) && s >= 0 && s < editions.get(e).size();
        }

        boolean hasLine(int line) {
            return line >= 0 && line < lines;
        }

        boolean fits(int e, int skip, Stretch s) {
            if (s.kind < 1 || s.kind > 5 || !hasLine(s.from) || s.many < 1 || s.many > 200) return false;
            if (s.from + s.many > lines || s.first < 1 || s.first > 999 || s.greatest() > 999) return false;
            for (int i = 0; i < editions.get(e).size(); i++) {
                if (i != skip && editions.get(e).get(i).shares(s)) return false;
            }
            return true;
        }

        TreeSet<Integer> numbers(int e, int line) {
            TreeSet<Integer> numbers = new TreeSet<>();
            for (Stretch s : editions.get(e)) numbers.addAll(s.numbersOf(line));
            return numbers;
        }

        TreeSet<Integer> numbers(int e) {
            TreeSet<Integer> numbers = new TreeSet<>();
            for (int line = 0; line < lines; line++) numbers.addAll(numbers(e, line));
            return numbers;
        }

        TreeSet<Integer> meant(int e, int n) {
            TreeSet<Integer> found = new TreeSet<>();
            for (int line = 0; line < lines; line++) {
                if (numbers(e, line).contains(n)) found.add(line);
            }
            return found;
        }

        TreeSet<Integer> in(int a, int n, int b) {
            TreeSet<Integer> found = new TreeSet<>();
            for (int line : meant(a, n)) found.addAll(numbers(b, line));
            return found;
        }

        TreeSet<Integer> through(int a, int n, int c, int b) {
            TreeSet<Integer> found = new TreeSet<>();
            for (int m : in(a, n, c)) found.addAll(in(c, m, b));
            return found;
        }

        TreeSet<Integer> linesOf(int e, int from, int to) {
            TreeSet<Integer> found = new TreeSet<>();
            for (int line = 0; line < lines; line++) {
                if (!numbers(e, line).subSet(from, true, to, true).isEmpty()) found.add(line);
            }
            return found;
        }

        TreeSet<Integer> linesOf(int c) {
            Citation it = citations.get(c);
            return linesOf(it.edition, it.from, it.last());
        }

        int score(int e) {
            int points = 0;
            for (Seen s : seen) {
                if (meant(e, s.number).contains(s.line)) points++;
            }
            return points;
        }
    }

    record Image(World world, String tape, int fault) {}

    static final class Fault extends Exception {
        private static final long serialVersionUID = 1L;
        final int place;
        final int number;

        Fault(int place, int number) {
            this.place = place;
            this.number = number;
        }
    }

    record Token(int place, String text) {}

    static final class Model {
        World w = null;
        String tape = "";
        int fault = 0;
        List<World> acts = new ArrayList<>();
        Image[] images = new Image[2];

        static List<Token> tokens(String text) {
            List<Token> all = new ArrayList<>();
            int i = 0;
            while (i < text.length()) {
                int j = i + 1;
                if (Character.digit(text.charAt(i), 10) >= 0) {
                    while (j < text.length() && text.charAt(j) >= '0' && text.charAt(j) <= '9') j++;
                }
                all.add(new Token(i, text.substring(i, j)));
                i = j;
            }
            all.add(new Token(text.length(), ""));
            return all;
        }

        static int numberAt(Token t) throws Fault {
            if (!t.text.matches("[0-9]{1,3}")) throw new Fault(t.place, 1);
            return Integer.parseInt(t.text);
        }

        static void need(Token t, String text) throws Fault {
            if (!t.text.equals(text)) throw new Fault(t.place, 1);
        }

        static World read(String text) throws Fault {
            List<Token> t = tokens(text);
            need(t.get(0), "w");
            int lines = numberAt(t.get(1));
            if (lines < 1 || lines > 200) throw new Fault(t.get(1).place, 2);
            need(t.get(2), ";");
            World w = new World(lines, new ArrayList<>(), new TreeMap<>(), new ArrayList<>());
            int i = 3;
            while (!t.get(i).text.isEmpty()) {
                Token letter = t.get(i);
                if (letter.text.equals("e")) {
                    if (w.editions.size() == 5) throw new Fault(letter.place, 3);
                    w.editions.add(new ArrayList<>());
                    i++;
                    continue;
                }
                int kind = "pshrb".indexOf(letter.text) + 1;
                if (kind == 0 || w.editions.isEmpty()) throw new Fault(letter.place, 1);
                List<Stretch> e = w.editions.get(w.editions.size() - 1);
                if (e.size() == 6) throw new Fault(letter.place, 3);
                e.add(stretch(w, e, kind, t, i + 1));
                i += 7;
            }
            return w;
        }

        static Stretch stretch(World w, List<Stretch> e, int kind, List<Token> t, int i) throws Fault {
            int from = numberAt(t.get(i));
            if (from >= w.lines) throw new Fault(t.get(i).place, 2);
            for (Stretch s : e) {
                if (s.shares(new Stretch(1, from, 1, 1))) throw new Fault(t.get(i).place, 2);
            }
            need(t.get(i + 1), ",");
            int many = numberAt(t.get(i + 2));
            if (many < 1 || from + many > w.lines) throw new Fault(t.get(i + 2).place, 2);
            for (Stretch s : e) {
                if (s.shares(new Stretch(1, from, many, 1))) throw new Fault(t.get(i + 2).place, 2);
            }
            need(t.get(i + 3), ",");
            int first = numberAt(t.get(i + 4));
            Stretch told = new Stretch(kind, from, many, first);
            if (first < 1 || told.greatest() > 999) throw new Fault(t.get(i + 4).place, 2);
            need(t.get(i + 5), ";");
            return told;
        }

        void act() {
            acts.add(w.copy());
            if (acts.size() > 10) acts.remove(0);
        }

        static int span(TreeSet<Integer> set, int what) {
            if (what < 0 || what > 2) return BAD;
            if (what == 0) return set.size();
            if (set.isEmpty()) return NONE;
            return what == 1 ? set.first() : set.last();
        }

        static boolean together(TreeSet<Integer> set) {
            return !set.isEmpty() && set.last() - set.first() + 1 == set.size();
        }

        static int thousandths(int above, int below) {
            return below == 0 ? NONE : (int) ((float) above / (float) below * 1000);
        }

        static boolean isNumber(int n) {
            return n >= 1 && n <= 999;
        }

        int feed(int b) {
            if (b < 0 || b > 255) return BAD;
            if (tape.length() == 200) return FULL;
            tape += (char) b;
            return tape.length();
        }

        int work() {
            String text = tape;
            tape = "";
            try {
                w = read(text);
                acts.clear();
                return w.editions.size();
            } catch (Fault f) {
                fault = f.number;
                return -1000100 - f.place;
            }
        }

        int undo() {
            if (acts.isEmpty()) return STATE;
            w = acts.remove(acts.size() - 1);
            return acts.size();
        }

        int add(int e, int kind, int from, int many, int first) {
            Stretch s = new Stretch(kind, from, many, first);
            if (w == null || !w.has(e) || !w.fits(e, -1, s)) return BAD;
            if (w.editions.get(e).size() == 6) return FULL;
            act();
            w.editions.get(e).add(s);
            return w.editions.get(e).size();
        }

        int drop(int e, int s) {
            if (w == null || !w.has(e, s)) return BAD;
            act();
            w.editions.get(e).remove(s);
            return w.editions.get(e).size();
        }

        int alter(int e, int s, int which, int v) {
            if (w == null || !w.has(e, s) || which < 0 || which > 3) return BAD;
            Stretch old = w.editions.get(e).get(s);
            int[] parts = {old.kind, old.from, old.many, old.first};
            int was = parts[which];
            parts[which] = v;
            Stretch next = new Stretch(parts[0], parts[1], parts[2], parts[3]);
            if (!w.fits(e, s, next)) return BAD;
            act();
            w.editions.get(e).set(s, next);
            return was;
        }

        int cite(int c, int e, int kind, int from, int to) {
            if (w == null || c < 0 || c > 7 || !w.has(e) || kind < 0 || kind > 2 || !isNumber(from)) return BAD;
            if (kind == 0 && (to < from || to > 999)) return BAD;
            if (kind > 0 && to != 0) return BAD;
            act();
            w.citations.put(c, new Citation(e, kind, from, to));
            return w.linesOf(c).size();
        }

        boolean cited(int c) {
            return w != null && w.citations.containsKey(c);
        }

        int strike(int c) {
            if (!cited(c)) return BAD;
            act();
            w.citations.remove(c);
            return w.citations.size();
        }

        int see(int n, int line) {
            if (w == null || !isNumber(n) || !w.hasLine(line)) return BAD;
            if (w.seen.size() == 12) return FULL;
            act();
            w.seen.add(new Seen(n, line));
            return w.seen.size();
        }

        int stretch(int e, int s, int what) {
            if (w == null || !w.has(e, s) || what < 0 || what > 4) return BAD;
            Stretch it = w.editions.get(e).get(s);
            return new int[] {it.kind, it.from, it.many, it.first, it.greatest()}[what];
        }

        int as(int e, int s, int kind) {
            if (w == null || !w.has(e, s) || kind < 0 || kind > 5) return BAD;
            int[] above = {-1, 0, 1, 1, 0, 0};
            for (int k = w.editions.get(e).get(s).kind; k >= 0; k = above[k]) {
                if (k == kind) return s;
            }
            return NONE;
        }

        int edition(int e, int what) {
            if (w == null || !w.has(e) || what < 0 || what > 6) return BAD;
            if (what == 0) return w.editions.get(e).size();
            if (what == 1) return w.linesOf(e, 1, 999).size();
            if (what < 5) return span(w.numbers(e), what - 2);
            int found = 0;
            for (int n : w.numbers(e)) {
                if (what == 5 ? w.meant(e, n).size() > 1 : !together(w.meant(e, n))) found++;
            }
            return found;
        }

        int number(int e, int line, int what) {
            if (w == null || !w.has(e) || !w.hasLine(line) || what < 0 || what > 1) return BAD;
            return span(w.numbers(e, line), what + 1);
        }

        int meant(int e, int n, int what) {
            if (w == null || !w.has(e) || !isNumber(n)) return BAD;
            if (what < 10) return span(w.meant(e, n), what);
            List<Integer> lines = new ArrayList<>(w.meant(e, n));
            return what - 10 < lines.size() ? lines.get(what - 10) : NONE;
        }

        int left(int e, int i, int what) {
            if (w == null || !w.has(e) || i < 0 || what < 0 || what > 1) return BAD;
            List<int[]> rows = new ArrayList<>();
            boolean open = false;
            for (int line = 0; line < w.lines; line++) {
                boolean bare = w.numbers(e, line).isEmpty();
                if (bare && open) rows.get(rows.size() - 1)[1]++;
                if (bare && !open) rows.add(new int[] {line, 1});
                open = bare;
            }
            return i < rows.size() ? rows.get(i)[what] : NONE;
        }

        int in(int a, int n, int b, int what) {
            if (w == null || !w.has(a) || !w.has(b) || !isNumber(n)) return BAD;
            return span(w.in(a, n, b), what);
        }

        int through(int a, int n, int c, int b, int what) {
            if (w == null || !w.has(a) || !w.has(b) || !w.has(c) || !isNumber(n)) return BAD;
            return span(w.through(a, n, c, b), what);
        }

        /** The longest run from n on that some s fits, by trying each s. */
        int[] longest(TreeMap<Integer, TreeSet<Integer>> in, int n) {
            int[] best = {n, 0, 0};
            for (int away = 0; away <= 999; away++) {
                for (int s : new int[] {away, -away}) {
                    int many = 0;
                    while (in.containsKey(n + many) && in.get(n + many).first() <= n + many + s
                            && n + many + s <= in.get(n + many).last()) many++;
                    if (many > best[1]) best = new int[] {n, many, s};
                }
            }
            return best;
        }

        int shift(int a, int b, int i, int what) {
            if (w == null || !w.has(a) || !w.has(b) || i < -1 || what < 0 || what > 2) return BAD;
            if (i == -1 && what != 0) return BAD;
            TreeMap<Integer, TreeSet<Integer>> in = new TreeMap<>();
            for (int n : w.numbers(a)) {
                TreeSet<Integer> there = w.in(a, n, b);
                if (!there.isEmpty()) in.put(n, there);
            }
            List<int[]> shifts = new ArrayList<>();
            Integer n = in.isEmpty() ? null : in.firstKey();
            while (n != null) {
                int[] next = longest(in, n);
                shifts.add(next);
                n = in.ceilingKey(n + next[1]);
            }
            if (i == -1) return shifts.size();
            return i < shifts.size() ? shifts.get(i)[what] : NONE;
        }

        int table(int a, int b, int what) {
            if (w == null || !w.has(a) || !w.has(b) || what < 0 || what > 3) return BAD;
            int found = 0;
            for (int n : w.numbers(a)) {
                int size = w.in(a, n, b).size();
                if (what == 3 ? w.through(a, n, b, a).equals(new TreeSet<>(List.of(n))) : Math.min(size, 2) == what) {
                    found++;
                }
            }
            return found;
        }

        int share(int a, int b) {
            if (w == null || !w.has(a) || !w.has(b)) return BAD;
            TreeSet<Integer> both = w.linesOf(a, 1, 999);
            TreeSet<Integer> some = w.linesOf(a, 1, 999);
            both.retainAll(w.linesOf(b, 1, 999));
            some.addAll(w.linesOf(b, 1, 999));
            return thousandths(both.size(), some.size());
        }

        int citation(int c, int what) {
            if (!cited(c) || what < 0 || what > 7) return BAD;
            Citation it = w.citations.get(c);
            if (what < 4) return new int[] {it.edition, it.kind, it.from, it.last()}[what];
            if (what < 7) return span(w.linesOf(c), what - 4);
            return together(w.linesOf(c)) ? 1 : 0;
        }

        int turned(int c, int e, int what) {
            if (!cited(c) || !w.has(e) || what < 0 || what > 2) return BAD;
            TreeSet<Integer> there = new TreeSet<>();
            for (int line : w.linesOf(c)) there.addAll(w.numbers(e, line));
            if (what < 2) return span(there, what + 1);
            if (there.isEmpty()) return 0;
            return w.linesOf(e, there.first(), there.last()).equals(w.linesOf(c)) ? 1 : 0;
        }

        int meet(int a, int b, int what) {
            if (!cited(a) || !cited(b) || what < 0 || what > 2) return BAD;
            TreeSet<Integer> mine = w.linesOf(what == 2 ? b : a);
            TreeSet<Integer> yours = w.linesOf(what == 2 ? a : b);
            if (what == 0) mine.retainAll(yours);
            else mine.removeAll(yours);
            return mine.size();
        }

        int could(int c, int line) {
            if (!cited(c) || !w.hasLine(line)) return BAD;
            Citation it = w.citations.get(c);
            int set = 0;
            for (int e = 0; e < w.editions.size(); e++) {
                if (w.linesOf(e, it.from, it.last()).contains(line)) set += 1 << e;
            }
            return set;
        }

        int score(int e, int what) {
            if (w == null || !w.has(e) || what < 0 || what > 1) return BAD;
            return what == 0 ? w.score(e) : thousandths(w.score(e), w.seen.size());
        }

        int best() {
            if (w == null) return STATE;
            int found = NONE;
            for (int e = w.editions.size() - 1; e >= 0; e--) {
                if (found == NONE || w.score(e) >= w.score(found)) found = e;
            }
            return found;
        }

        int image(int k) {
            if (k < 0 || k > 1) return BAD;
            if (w == null) return STATE;
            images[k] = new Image(w.copy(), tape, fault);
            return 1;
        }

        int restore(int k) {
            if (k < 0 || k > 1) return BAD;
            if (images[k] == null) return STATE;
            w = images[k].world.copy();
            tape = images[k].tape;
            fault = images[k].fault;
            acts.clear();
            return 1;
        }

        int count(int what) {
            int stretches = 0;
            if (w != null) for (List<Stretch> e : w.editions) stretches += e.size();
            switch (what) {
                case 0: return w == null ? 0 : w.lines;
                case 1: return w == null ? 0 : w.editions.size();
                case 2: return stretches;
                case 3: return w == null ? 0 : w.citations.size();
                case 4: return w == null ? 0 : w.seen.size();
                case 5: return acts.size();
                case 6: return tape.length();
                default: return BAD;
            }
        }
    }

    static final String[] NAMES = {"feed", "work", "fault", "undo", "add", "drop", "alter", "cite", "strike", "see",
        "stretch", "as", "edition", "number", "meant", "left", "in", "through", "shift", "table", "share", "citation",
        "turned", "meet", "could", "score", "best", "image", "restore", "count"};

    static int ask(LineCites x, int call, int[] a) {
        switch (call) {
            case 0: return x.feed(a[0]);
            case 1: return x.work();
            case 2: return x.fault();
            case 3: return x.undo();
            case 4: return x.add(a[0], a[1], a[2], a[3], a[4]);
            case 5: return x.drop(a[0], a[1]);
            case 6: return x.alter(a[0], a[1], a[2], a[3]);
            case 7: return x.cite(a[0], a[1], a[2], a[3], a[4]);
            case 8: return x.strike(a[0]);
            case 9: return x.see(a[0], a[1]);
            case 10: return x.stretch(a[0], a[1], a[2]);
            case 11: return x.as(a[0], a[1], a[2]);
            case 12: return x.edition(a[0], a[1]);
            case 13: return x.number(a[0], a[1], a[2]);
            case 14: return x.meant(a[0], a[1], a[2]);
            case 15: return x.left(a[0], a[1], a[2]);
            case 16: return x.in(a[0], a[1], a[2], a[3]);
            case 17: return x.through(a[0], a[1], a[2], a[3], a[4]);
            case 18: return x.shift(a[0], a[1], a[2], a[3]);
            case 19: return x.table(a[0], a[1], a[2]);
            case 20: return x.share(a[0], a[1]);
            case 21: return x.citation(a[0], a[1]);
            case 22: return x.turned(a[0], a[1], a[2]);
            case 23: return x.meet(a[0], a[1], a[2]);
            case 24: return x.could(a[0], a[1]);
            case 25: return x.score(a[0], a[1]);
            case 26: return x.best();
            case 27: return x.image(a[0]);
            case 28: return x.restore(a[0]);
            default: return x.count(a[0]);
        }
    }

    static int ask(Model x, int call, int[] a) {
        switch (call) {
            case 0: return x.feed(a[0]);
            case 1: return x.work();
            case 2: return x.fault;
            case 3: return x.undo();
            case 4: return x.add(a[0], a[1], a[2], a[3], a[4]);
            case 5: return x.drop(a[0], a[1]);
            case 6: return x.alter(a[0], a[1], a[2], a[3]);
            case 7: return x.cite(a[0], a[1], a[2], a[3], a[4]);
            case 8: return x.strike(a[0]);
            case 9: return x.see(a[0], a[1]);
            case 10: return x.stretch(a[0], a[1], a[2]);
            case 11: return x.as(a[0], a[1], a[2]);
            case 12: return x.edition(a[0], a[1]);
            case 13: return x.number(a[0], a[1], a[2]);
            case 14: return x.meant(a[0], a[1], a[2]);
            case 15: return x.left(a[0], a[1], a[2]);
            case 16: return x.in(a[0], a[1], a[2], a[3]);
            case 17: return x.through(a[0], a[1], a[2], a[3], a[4]);
            case 18: return x.shift(a[0], a[1], a[2], a[3]);
            case 19: return x.table(a[0], a[1], a[2]);
            case 20: return x.share(a[0], a[1]);
            case 21: return x.citation(a[0], a[1]);
            case 22: return x.turned(a[0], a[1], a[2]);
            case 23: return x.meet(a[0], a[1], a[2]);
            case 24: return x.could(a[0], a[1]);
            case 25: return x.score(a[0], a[1]);
            case 26: return x.best();
            case 27: return x.image(a[0]);
            case 28: return x.restore(a[0]);
            default: return x.count(a[0]);
        }
    }

    /** Makes calls that mostly fit what stands. */
    static final class Maker {
        final Random random;
        final Model model;

        Maker(Random random, Model model) {
            this.random = random;
            this.model = model;
        }

        int below(int n) {
            return random.nextInt(n);
        }

        int from(int a, int b) {
            return a + below(b - a + 1);
        }

        int lines() {
            return model.w == null ? 10 : model.w.lines;
        }

        int line() {
            return from(0, lines() - 1);
        }

        int edition() {
            int many = model.w == null ? 0 : model.w.editions.size();
            return many == 0 ? 0 : below(many);
        }

        int stretch(int e) {
            int many = model.w == null || !model.w.has(e) ? 0 : model.w.editions.get(e).size();
            return many == 0 ? 0 : below(many);
        }

        int citation() {
            if (model.w == null || model.w.citations.isEmpty()) return below(8);
            List<Integer> there = new ArrayList<>(model.w.citations.keySet());
            return there.get(below(there.size()));
        }

        int number(int e) {
            if (below(6) == 0 || model.w == null || !model.w.has(e)) return from(1, 999);
            List<Integer> there = new ArrayList<>(model.w.numbers(e));
            return there.isEmpty() ? from(1, 30) : there.get(below(there.size()));
        }

        int first() {
            return below(4) == 0 ? from(960, 999) : from(1, 30);
        }

        int many(int from) {
            return from(1, Math.max(1, Math.min(lines() - from, below(3) == 0 ? lines() : 5)));
        }

        int[] rough(int call) {
            int e = edition();
            int c = citation();
            int from = line();
            switch (call) {
                case 0: return new int[] {"we0123456789,;pshrb".charAt(below(19))};
                case 4: return new int[] {e, from(1, 5), from, many(from), first()};
                case 5: return new int[] {e, stretch(e)};
                case 6: {
                    int which = below(4);
                    int s = stretch(e);
                    int v = which == 0 ? from(1, 5) : which == 1 ? line() : which == 2 ? from(1, 6) : first();
                    if (below(5) == 0 && model.w != null && model.w.has(e, s)) v = model.stretch(e, s, which);
                    return new int[] {e, s, which, v};
                }
                case 7: {
                    int kind = below(3);
                    int n = number(e);
                    return new int[] {below(8), e, kind, n, kind == 0 ? from(n, Math.min(999, n + below(40))) : 0};
                }
                case 9: {
                    int n = number(e);
                    List<Integer> meant = model.w == null || !model.w.has(e)
                            ? List.of() : new ArrayList<>(model.w.meant(e, n));
                    return new int[] {n, meant.isEmpty() || below(4) == 0 ? line() : meant.get(below(meant.size()))};
                }
                case 10: return new int[] {e, stretch(e), below(5)};
                case 11: return new int[] {e, stretch(e), below(6)};
                case 12: return new int[] {e, below(7)};
                case 13: return new int[] {e, line(), below(2)};
                case 14: return new int[] {e, number(e), below(2) == 0 ? below(3) : 10 + below(5)};
                case 15: return new int[] {e, below(5), below(2)};
                case 16: return new int[] {e, number(e), edition(), below(3)};
                case 17: return new int[] {e, number(e), edition(), edition(), below(3)};
                case 18: return below(4) == 0 ? new int[] {e, edition(), -1, 0}
                    : new int[] {e, edition(), below(below(2) == 0 ? 4 : 30), below(3)};
                case 19: return new int[] {e, edition(), below(4)};
                case 20: return new int[] {e, edition()};
                case 21: return new int[] {c, below(8)};
                case 22: return new int[] {c, e, below(3)};
                case 23: return new int[] {c, citation(), below(3)};
                case 24: return new int[] {c, line()};
                case 25: return new int[] {e, below(2)};
                case 8: return new int[] {c};
                case 27: case 28: return new int[] {below(2)};
                case 29: return new int[] {below(7)};
                default: return new int[0];
            }
        }

        int[] arguments(int call) {
            int[] a = rough(call);
            int[] odd = {-1, 0, 1, -2, 6, 7, 8, 200, 999, 1000, Integer.MAX_VALUE, Integer.MIN_VALUE, lines(), 256};
            if (a.length > 0 && below(9) == 0) a[below(a.length)] = odd[below(odd.length)];
            return a;
        }

        String text() {
            int lines = below(12) == 0 ? 200 : below(3) == 0 ? from(20, 90) : from(1, 20);
            StringBuilder text = new StringBuilder("w").append(lines).append(';');
            int editions = below(6);
            for (int e = 0; e < editions; e++) {
                text.append('e');
                int line = below(3) == 0 ? below(lines) : 0;
                for (int s = below(5); s > 0 && line < lines && text.length() < 180; s--) {
                    int many = below(4) == 0 ? lines - line : from(1, Math.min(lines - line, 9));
                    int kind = from(1, 5);
                    int most = 999 - new Stretch(kind, 0, many, 0).greatest();
                    int first = below(10) == 0 ? most : Math.min(most, from(1, 25));
                    text.append("pshrb".charAt(kind - 1)).append(line).append(',').append(many).append(',')
                            .append(first).append(';');
                    line += many + (below(3) == 0 ? below(4) : 0);
                }
            }
            if (below(4) == 0) spoil(text);
            return text.toString();
        }

        void spoil(StringBuilder text) {
            int at = below(text.length());
            char other = "we0123456789,;pshrb x\u00ff9999"
                    .charAt(below(26));
            if (below(3) == 0) text.deleteCharAt(at);
            else if (below(2) == 0) text.setCharAt(at, other);
            else text.insert(at, other);
        }
    }

    static final int[] asked = new int[NAMES.length];
    static final int[] refused = new int[NAMES.length];

    static boolean run(int seed) {
        LineCites x = new LineCites();
        Model model = new Model();
        Maker maker = new Maker(new Random(seed), model);
        List<String> told = new ArrayList<>();
        String text = maker.below(5) == 0 ? "" : maker.text() + "!";
        int fed = 0;
        for (int i = 0; i < CALLS; i++) {
            int call;
            int[] a;
            if (fed < text.length()) {
                boolean last = fed == text.length() - 1;
                call = last ? 1 : 0;
                a = last ? new int[0] : new int[] {text.charAt(fed)};
                fed++;
            } else {
                call = maker.below(NAMES.length);
                if (call < 2 && maker.below(3) > 0) {
                    text = maker.text() + "!";
                    fed = 0;
                    continue;
                }
                a = maker.arguments(call);
            }
            int want = ask(model, call, a);
            int got = ask(x, call, a);
            asked[call]++;
            if (want <= BAD) refused[call]++;
            told.add(NAMES[call] + Arrays.toString(a) + " -> " + got);
            if (got != want) {
                System.out.println("seed " + seed + ", due is " + want + ": " + told);
                return false;
            }
        }
        return true;
    }

    // ---- every call with every mix of numbers at and beyond the edges, in some states

    /** For each call, in the order of NAMES, what its numbers are. */
    static final String[] TAKES = {"b", "", "", "", "eklmn", "es", "eswv", "ceknt", "c", "nl", "esw", "esk", "ew", "elw",
        "enw", "eiw", "enew", "eneew", "eeiw", "eew", "ee", "cw", "cew", "ccw", "cl", "ew", "", "k", "k", "w"};
    static final String[] TEXTS = {"", "w1;", "w1;ep0,1,999;", "w12;ep0,12,1;es0,6,1;h6,6,20;er0,4,1;b4,3,5;p7,5,1;e",
        "w9;eb0,1,1;b1,1,9;b2,1,1;s3,1,998;p4,1,3;h5,2,2;eer0,9,991;ee"};
    static final int FEED = 0, WORK = 1, UNDO = 3, CITE = 7, SEE = 9, FIRST_QUERY = 10, IMAGE = 27, COUNT = 29;
    /** An object has 512 calls; the last ones look at the counts. */
    static final int MOST_CALLS = 490;

    static int[] edges(char kind, Model model) {
        int least = Integer.MIN_VALUE;
        int most = Integer.MAX_VALUE;
        int editions = model.count(1);
        int lines = model.count(0);
        switch (kind) {
            case 'b': return new int[] {least, -1, 0, 'w', 255, 256, most};
            case 'e': return new int[] {-1, 0, editions - 1, editions, most};
            case 's': return new int[] {least, -1, 0, 1, 2, 5, 6};
            case 'k': return new int[] {-1, 0, 1, 2, 3, 4, 5, 6};
            case 'l': return new int[] {-1, 0, 1, lines - 1, lines, most};
            case 'm': return new int[] {0, 1, 2, lines, lines + 1, most};
            case 'n': return new int[] {0, 1, 9, 998, 999, 1000, most};
            case 't': return new int[] {-1, 0, 1, 9, 999, 1000, least};
            case 'c': return new int[] {least, -1, 0, 1, 7, 8};
            case 'i': return new int[] {least, -2, -1, 0, 1, 2, most};
            case 'v': return new int[] {least, -1, 0, 1, 2, 5, 6, 7, lines - 1, lines, 991, 998, 999, 1000, most};
            default: return new int[] {least, -1, 0, 1, 2, 3, 4, 5, 6, 7, 8, 9, 10, 11, most};
        }
    }

    /** The same calls on both: a text, then acts and images that leave it as full as the state asks. */
    static final class Pair {
        final LineCites x = new LineCites();
        final Model model = new Model();
        int calls;
        int latest;

        Pair(int state) {
            String text = TEXTS[state / 2];
            for (int i = 0; i < text.length(); i++) both(FEED, text.charAt(i));
            if (!text.isEmpty()) both(WORK);
            if (state % 2 == 0) return;
            both(IMAGE, 0);
            both(CITE, 0, 0, 0, 1, 9);
            both(CITE, 1, 1, 2, 998, 0);
            for (int i = 0; i < 12; i++) both(SEE, 1 + i % 2 * 8, i % 9);
            both(IMAGE, 1);
            both(CITE, 7, 2, 1, 998, 0);
            for (int i = 0; i < 200; i++) both(FEED, 'e');
        }

        boolean both(int call, int... a) {
            calls++;
            latest = ask(model, call, a);
            int got = ask(x, call, a);
            if (got == latest) return true;
            System.out.println(NAMES[call] + Arrays.toString(a) + " answered " + got + ", due is " + latest);
            return false;
        }

        boolean isRefused() {
            return latest <= BAD && latest >= FULL;
        }

        /** What a call did shows in the counts, and in what is undone. */
        boolean showAlike() {
            boolean isAlike = true;
            for (int what = 0; what <= 6; what++) isAlike &= both(COUNT, what);
            isAlike &= both(UNDO);
            for (int what = 0; what <= 6; what++) isAlike &= both(COUNT, what);
            return isAlike;
        }
    }

    static int gridOf(int state, int call) {
        Pair pair = new Pair(state);
        int[][] edges = new int[TAKES[call].length()][];
        int mixes = 1;
        for (int i = 0; i < edges.length; i++) {
            edges[i] = edges(TAKES[call].charAt(i), pair.model);
            mixes *= edges[i].length;
        }
        boolean isQuery = call >= FIRST_QUERY && call < IMAGE || call == COUNT;
        int wrong = 0;
        int[] a = new int[edges.length];
        for (int mix = 0; mix < mixes && wrong < 5; mix++) {
            int rest = mix;
            for (int i = 0; i < a.length; i++) {
                a[i] = edges[i][rest % edges[i].length];
                rest /= edges[i].length;
            }
            if (!pair.both(call, a)) wrong++;
            boolean isChanged = !isQuery && !pair.isRefused();
            if (isChanged || pair.calls >= MOST_CALLS) {
                if (!pair.showAlike()) wrong++;
                pair = new Pair(state);
            }
        }
        if (!pair.showAlike()) wrong++;
        return wrong;
    }

    static int grid() {
        int wrong = 0;
        for (int state = 0; state < 2 * TEXTS.length && wrong == 0; state++) {
            for (int call = 0; call < NAMES.length; call++) wrong += gridOf(state, call);
        }
        return wrong;
    }

    public static void main(String[] args) {
        int wrong = 0;
        for (int seed = 0; seed < RUNS && wrong < 3; seed++) {
            if (!run(seed)) wrong++;
        }
        for (int call = 0; call < NAMES.length; call++) {
            // A call that is seldom asked, or nearly always refused, would be hardly tested.
            boolean isThin = asked[call] < 500 || asked[call] - refused[call] < asked[call] / 5;
            if (isThin) {
                System.out.println(NAMES[call] + " is hardly tested: " + asked[call] + " asked, " + refused[call] + " refused");
                wrong++;
            }
        }
        wrong += grid();
        System.out.println(RUNS + " random runs and a grid of edges against the model, " + wrong + " wrong");
        if (wrong != 0) System.exit(1);
    }
}
