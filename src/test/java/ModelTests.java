import java.util.ArrayList;
import java.util.Arrays;
import java.util.HashMap;
import java.util.HashSet;
import java.util.List;
import java.util.Map;
import java.util.NoSuchElementException;
import java.util.Random;
import java.util.Set;
import java.util.function.BiFunction;

/** Runs drawn from fixed seeds, against a second model that is plain, slow and written another way. */
public final class ModelTests {
    private static final Set<String> LANGUAGE = new HashSet<>(Arrays.asList(
        "room screen folk carry step moth seed law ageing pay cut or and not season from age done near whole hour".split(" ")));
    private static final List<String> NAMES = Arrays.asList("season", "from", "age", "done", "near", "whole", "hour");
    private static final List<String> RULES = Arrays.asList("ageing", "pay", "cut");

    static final class Fault extends RuntimeException {
        final int kind;
        final int place;

        Fault(int kind, int place) {
            this.kind = kind;
            this.place = place;
        }
    }

    static final class EvalError extends RuntimeException { }

    interface Node {
        long value(Map<String, Long> names);
    }

    static final class Screen implements Cloneable {
        String name;
        int season, row, column, leaves, down;
        boolean[] cut;

        Screen copy() {
            try {
                Screen other = (Screen) clone();
                other.cut = cut.clone();
                return other;
            } catch (CloneNotSupportedException e) {
                throw new IllegalStateException(e);
            }
        }

        List<int[]> cells(boolean wholeOnly) {
            List<int[]> all = new ArrayList<>();
            for (int k = 0; k < leaves; k++) {
                if (!wholeOnly || !cut[k]) all.add(new int[] {row + (down == 1 ? k : 0), column + (down == 0 ? k : 0)});
            }
            return all;
        }

        int whole() {
            return cells(true).size();
        }

        int far(int r, int c) {
            int best = Integer.MAX_VALUE;
            for (int[] cell : cells(true)) best = Math.min(best, Math.abs(cell[0] - r) + Math.abs(cell[1] - c));
            return best;
        }
    }

    static final class Person implements Cloneable {
        String name;
        int age, row, column, work, done;

        Person copy() {
            try {
                return (Person) clone();
            } catch (CloneNotSupportedException e) {
                throw new IllegalStateException(e);
            }
        }
    }

    /** What is told once and what hours change, together; a null among the screens is one thought away. */
    static final class World {
        int rows = 4, columns = 4, moth = 0, hour = 0, refused = 0, knots = 0, lines = 0;
        long number = 0;
        List<Screen> screens = new ArrayList<>();
        List<Person> folk = new ArrayList<>();
        List<int[]> carries = new ArrayList<>();
        List<int[]> steps = new ArrayList<>();
        Node[] laws = new Node[3];
        boolean draw = false, moths = true, carrying = true, stepping = true;

        World copy() {
            World w = new World();
            w.rows = rows;
            w.columns = columns;
            w.moth = moth;
            w.hour = hour;
            w.refused = refused;
            w.knots = knots;
            w.lines = lines;
            w.number = number;
            for (Screen s : screens) w.screens.add(s == null ? null : s.copy());
            for (Person p : folk) w.folk.add(p.copy());
            w.carries = carries;
            w.steps = steps;
            w.laws = laws;
            return w;
        }

        boolean inside(int r, int c) {
            return r >= 0 && c >= 0 && r < rows && c < columns;
        }

        Screen maker(int r, int c) {
            Screen best = null;
            for (Screen s : screens) {
                if (s != null && s.whole() > 0 && (best == null || s.far(r, c) < best.far(r, c))) best = s;
            }
            return best;
        }

        int seasonAt(int r, int c) {
            Screen s = maker(r, c);
            return s == null ? 4 : s.season;
        }

        int leafAt(int r, int c) {
            for (int k = 0; k < screens.size(); k++) {
                if (screens.get(k) == null) continue;
                for (int[] cell : screens.get(k).cells(true)) if (cell[0] == r && cell[1] == c) return k;
            }
            return -2;
        }

        boolean fits(int which, int r, int c, int down) {
            Screen s = screens.get(which).copy();
            s.row = r;
            s.column = c;
            s.down = down;
            if (!inside(r, c)) return false;
            for (int[] cell : s.cells(false)) {
                if (!inside(cell[0], cell[1])) return false;
                for (int k = 0; k < screens.size(); k++) {
                    if (k == which || screens.get(k) == null) continue;
                    for (int[] other : screens.get(k).cells(false)) if (Arrays.equals(other, cell)) return false;
                }
            }
            return true;
        }

        int wholeLeaves() {
            int sum = 0;
            for (Screen s : screens) if (s != null) sum += s.whole();
            return sum;
        }

        int cellsOf(int season) {
            int n = 0;
            for (int r = 0; r < rows; r++) for (int c = 0; c < columns; c++) if (seasonAt(r, c) == season) n++;
            return n;
        }

        int working() {
            int n = 0;
            for (Person p : folk) if (seasonAt(p.row, p.column) == p.work) n++;
            return n;
        }

        int done() {
            int n = 0;
            for (Person p : folk) n += p.done;
            return n;
        }

        /** null: no law, or an error. */
        Long law(int rule, long... values) {
            if (laws[rule] == null) return null;
            Map<String, Long> names = new HashMap<>();
            for (int k = 0; k < 7; k++) names.put(NAMES.get(k), values[k]);
            try {
                return laws[rule].value(names);
            } catch (EvalError e) {
                return null;
            }
        }

        Long ageing(Person p, int r, int c, int from) {
            Screen s = maker(r, c);
            return law(0, seasonAt(r, c), from, p.age, p.done, s == null ? 0 : s.far(r, c), wholeLeaves(), hour);
        }

        Long pay(Person p) {
            Screen s = maker(p.row, p.column);
            return law(1, seasonAt(p.row, p.column), p.work, p.age, p.done, s == null ? 0 : s.far(p.row, p.column), wholeLeaves(), hour);
        }

        Long cut(Screen s) {
            return law(2, s.season, 0, 0, 0, s.leaves - s.whole(), s.whole(), hour);
        }

        static long clip(Long value, long without, long most) {
            return value == null ? without : Math.max(0, Math.min(most, value));
        }

        static final int[][] ON = {{-1, 0}, {0, 1}, {1, 0}, {0, -1}};

        boolean walk(Person p, int way) {
            int r = p.row + ON[way][0];
            int c = p.column + ON[way][1];
            if (!inside(r, c) || leafAt(r, c) >= 0) return false;
            int from = seasonAt(p.row, p.column);
            int to = seasonAt(r, c);
            if (from != to) p.age = (int) Math.min(999, p.age + clip(ageing(p, r, c, from), Math.floorMod(to - from, 4), 9));
            p.row = r;
            p.column = c;
            return true;
        }

        void run(int n) {
            for (int k = 0; k < n; k++) oneHour();
        }

        void oneHour() {
            for (int[] carry : carries) {
                Screen s = screens.get(carry[0]);
                if (!carrying || carry[1] != hour || s == null) continue;
                if (fits(carry[0], carry[2], carry[3], s.down)) {
                    s.row = carry[2];
                    s.column = carry[3];
                } else {
                    refused++;
                }
            }
            for (int[] step : steps) {
                if (stepping && step[1] == hour && !walk(folk.get(step[0]), step[2])) refused++;
            }
            for (Person p : folk) {
                if (seasonAt(p.row, p.column) == p.work) p.done = (int) Math.min(9999, p.done + clip(pay(p), 1, 99));
            }
            if (moths && hour % 10 == 9) {
                for (Screen s : screens) if (s != null && s.whole() > 0) moth(s);
            }
            hour++;
        }

        void moth(Screen s) {
            long odds = clip(cut(s), moth, 100);
            boolean eats = odds >= 50;
            if (draw) {
                eats = odds == 100;
                if (odds > 0 && odds < 100) {
                    number = Math.floorMod(number * 1103515245L + 12345L, 1L << 31);
                    eats = number / 65536 % 100 < odds;
                }
            }
            for (int k = 0; eats && k < s.leaves; k++) {
                if (!s.cut[k]) {
                    s.cut[k] = true;
                    eats = false;
                }
            }
        }

        /** Least cost from a cell to all, by going over all steps until nothing changes. */
        int[][] costs(int row, int column, boolean byAge) {
            int[][] cost = new int[rows][columns];
            for (int[] line : cost) Arrays.fill(line, 1 << 20);
            cost[row][column] = 0;
            for (boolean changed = true; changed; ) {
                changed = false;
                for (int r = 0; r < rows; r++) {
                    for (int c = 0; c < columns; c++) {
                        for (int[] on : ON) {
                            int nr = r + on[0];
                            int nc = c + on[1];
                            if (!inside(nr, nc) || leafAt(nr, nc) >= 0) continue;
                            int more = byAge ? Math.floorMod(seasonAt(nr, nc) - seasonAt(r, c), 4) : 1;
                            if (cost[r][c] + more < cost[nr][nc]) {
                                cost[nr][nc] = cost[r][c] + more;
                                changed = true;
                            }
                        }
                    }
                }
            }
            return cost;
        }

        World only(int bits) {
            World w = copy();
            for (int k = 0; k < screens.size(); k++) if ((bits >> k & 1) == 0) w.screens.set(k, null);
            return w;
        }
    }

    /** A text read by going down the grammar, the first fault thrown. */
    static final class TextReader {
        final String text;
        int at = 0;
        String token;
        int place;
        World w = new World();
        Set<String> told = new HashSet<>();
        int open = 0;

        TextReader(String text) {
            this.text = text;
            next();
        }

        boolean in(int k, char from, char to) {
            return k < text.length() && text.charAt(k) >= from && text.charAt(k) <= to;
        }

        void next() {
            while (at < text.length() && (text.charAt(at) == ' ' || text.charAt(at) == '\n')) at++;
            place = at;
            if (at == text.length()) {
                token = "";
                return;
            }
            if (in(at, 'a', 'z')) while (in(at, 'a', 'z')) at++;
            else if (in(at, '0', '9')) while (in(at, '0', '9')) at++;
            else at++;
            token = text.substring(place, at);
            for (String two : new String[] {"<=", ">=", "<>"}) {
                if (text.startsWith(two, place)) {
                    token = two;
                    at = place + 2;
                }
            }
        }

        Fault fault(int kind) {
            return new Fault(kind, place);
        }

        boolean isWord() {
            return !token.isEmpty() && token.charAt(0) >= 'a' && token.charAt(0) <= 'z';
        }

        int n(int least, int most) {
            if (token.isEmpty() || !Character.isDigit(token.charAt(0)) || token.charAt(0) > '9') throw fault(1);
            String digits = token.replaceFirst("^0+(?=.)", "");
            if (digits.length() > 6 || Integer.parseInt(digits) < least || Integer.parseInt(digits) > most) throw fault(2);
            next();
            return Integer.parseInt(digits);
        }

        String w() {
            if (!isWord() || token.length() > 6 || LANGUAGE.contains(token)) throw fault(1);
            return token;
        }

        void once(String what) {
            if (!told.add(what)) throw fault(3);
        }

        void sign(String what) {
            if (!token.equals(what)) throw fault(1);
            next();
        }

        World read() {
            while (!token.isEmpty()) {
                line();
                sign(";");
                w.lines++;
            }
            return w;
        }

        void line() {
            String word = token;
            switch (word) {
                case "room":
                    if (!w.screens.isEmpty() || !w.folk.isEmpty()) throw fault(1);
                    once("room");
                    next();
                    w.rows = n(1, 8);
                    w.columns = n(1, 8);
                    break;
                case "screen": screenLine(); break;
                case "folk": folkLine(); break;
                case "carry": {
                    if (w.carries.size() == 10) throw fault(2);
                    next();
                    int which = index(true);
                    w.carries.add(new int[] {which, n(0, 99), n(0, 7), n(0, 7)});
                    break;
                }
                case "step": {
                    if (w.steps.size() == 12) throw fault(2);
                    next();
                    int which = index(false);
                    w.steps.add(new int[] {which, n(0, 99), n(0, 3)});
                    break;
                }
                case "moth":
                    once("moth");
                    next();
                    w.moth = n(0, 100);
                    break;
                case "seed":
                    once("seed");
                    next();
                    w.number = n(0, 99999);
                    break;
                case "law": {
                    next();
                    int rule = RULES.indexOf(token);
                    if (rule < 0) throw fault(1);
                    once("law " + token);
                    next();
                    w.laws[rule] = e();
                    break;
                }
                default: throw fault(1);
            }
        }

        int index(boolean screen) {
            String name = w();
            int found = -1;
            if (screen) for (int k = 0; k < w.screens.size(); k++) if (w.screens.get(k).name.equals(name)) found = k;
            if (!screen) for (int k = 0; k < w.folk.size(); k++) if (w.folk.get(k).name.equals(name)) found = k;
            if (found < 0) throw fault(4);
            next();
            return found;
        }

        void screenLine() {
            if (w.screens.size() == 5) throw fault(2);
            next();
            Screen s = new Screen();
            s.name = w();
            once("screen " + s.name);
            next();
            s.season = n(0, 3);
            s.row = n(0, w.rows - 1);
            s.column = n(0, w.columns - 1);
            s.leaves = n(1, 4);
            s.cut = new boolean[s.leaves];
            int last = place;
            s.down = n(0, 1);
            w.screens.add(s);
            if (!w.fits(w.screens.size() - 1, s.row, s.column, s.down)) throw new Fault(5, last);
        }

        void folkLine() {
            if (w.folk.size() == 6) throw fault(2);
            next();
            Person p = new Person();
            p.name = w();
            once("folk " + p.name);
            next();
            p.age = n(0, 99);
            p.row = n(0, w.rows - 1);
            p.column = n(0, w.columns - 1);
            p.work = n(0, 3);
            w.folk.add(p);
        }

        void knot() {
            if (++w.knots > 64) throw fault(2);
        }

        Node joined(Node a, Node b, BiFunction<Long, Long, Long> how) {
            return names -> {
                long left = a.value(names);
                long right = b.value(names);
                return how.apply(left, right);
            };
        }

        Node e() {
            Node a = a();
            while (token.equals("or")) {
                knot();
                next();
                a = joined(a, a(), (x, y) -> x != 0 || y != 0 ? 1L : 0L);
            }
            return a;
        }

        Node a() {
            Node a = b();
            while (token.equals("and")) {
                knot();
                next();
                a = joined(a, b(), (x, y) -> x != 0 && y != 0 ? 1L : 0L);
            }
            return a;
        }

        Node b() {
            if (!token.equals("not")) return c();
            knot();
            next();
            Node of = b();
            return names -> of.value(names) == 0 ? 1 : 0;
        }

        Node c() {
            Node a = s();
            String sign = token;
            if (!Arrays.asList("<", "<=", "=", "<>", ">=", ">").contains(sign)) return a;
            knot();
            next();
            return joined(a, s(), (x, y) -> {
                int way = Long.compare(x, y);
                boolean so = way < 0 ? sign.startsWith("<") : way > 0 ? sign.endsWith(">") || sign.equals(">=") : sign.endsWith("=");
                return so ? 1L : 0L;
            });
        }

        static long checked(java.math.BigInteger value) {
            if (value.abs().compareTo(java.math.BigInteger.TEN.pow(12)) > 0) throw new EvalError();
            return value.longValueExact();
        }

        Node s() {
            Node a = t();
            while (token.equals("+") || token.equals("-")) {
                boolean plus = token.equals("+");
                knot();
                next();
                a = joined(a, t(), (x, y) -> checked(java.math.BigInteger.valueOf(x).add(java.math.BigInteger.valueOf(plus ? y : -y))));
            }
            return a;
        }

        Node t() {
            Node a = p();
            while (token.equals("*") || token.equals("/")) {
                boolean times = token.equals("*");
                knot();
                next();
                a = joined(a, p(), (x, y) -> {
                    if (times) return checked(java.math.BigInteger.valueOf(x).multiply(java.math.BigInteger.valueOf(y)));
                    if (y == 0) throw new EvalError();
                    return x / y;
                });
            }
            return a;
        }

        Node p() {
            if (token.equals("(")) {
                if (++open > 8) throw fault(2);
                next();
                Node inner = e();
                sign(")");
                open--;
                return inner;
            }
            if (NAMES.contains(token)) {
                String name = token;
                knot();
                next();
                return names -> names.get(name);
            }
            boolean digits = in(place, '0', '9');
            if (!digits) throw fault(1);
            Fault tooMany = w.knots >= 64 ? fault(2) : null;
            long value = n(0, 9999);
            if (tooMany != null) throw tooMany;
            w.knots++;
            return names -> value;
        }
    }

    /** The calls of the face, on worlds. */
    static final class Model {
        String tape = "";
        int faultKind = 0;
        int faultPlace = -1;
        World start = new World();
        World now = start.copy();
        World image = null;
        List<World> undo = new ArrayList<>();
        List<int[]> seen = new ArrayList<>();
        int known = -1;

        int feed(int... five) {
            if (tape.length() + 20 > 700) return -1;
            StringBuilder all = new StringBuilder(tape);
            for (int four : five) for (int k = 3; k >= 0; k--) all.append((char) (four >>> 8 * k & 255));
            tape = all.toString();
            return tape.length();
        }

        int text(int n) {
            if (n < 0 || n > tape.length()) return -2;
            String first = tape.substring(0, n);
            tape = "";
            faultKind = 0;
            faultPlace = -1;
            try {
                start = new TextReader(first).read();
            } catch (Fault f) {
                faultKind = f.kind;
                faultPlace = f.place;
                return -1;
            }
            now = start.copy();
            image = null;
            undo.clear();
            seen.clear();
            known = -1;
            return start.lines;
        }

        int named(int what, int letters) {
            List<String> names = new ArrayList<>();
            if (what == 0) for (Screen s : now.screens) names.add(s.name);
            if (what == 1) for (Person p : now.folk) names.add(p.name);
            for (int k = 0; k < names.size(); k++) {
                int code = 0;
                for (int c = 0; c < names.get(k).length(); c++) code |= names.get(k).charAt(c) - 96 << 25 - 5 * c;
                if (code == letters) return k;
            }
            return -1;
        }

        boolean isScreen(int k) {
            return k >= 0 && k < now.screens.size();
        }

        boolean isFolk(int k) {
            return k >= 0 && k < now.folk.size();
        }

        int folk(int k, int what) {
            if (!isFolk(k)) throw new IndexOutOfBoundsException();
            Person p = now.folk.get(k);
            if (what < 0 || what > 5) throw new NoSuchElementException();
            return new int[] {p.age, p.row, p.column, p.work, p.done, now.seasonAt(p.row, p.column)}[what];
        }

        int screen(int k, int what) {
            if (!isScreen(k) || what < 0 || what > 5) return -1;
            Screen s = now.screens.get(k);
            int bits = 0;
            for (int c = 0; c < s.leaves; c++) if (!s.cut[c]) bits |= 1 << c;
            return new int[] {s.season, s.row, s.column, s.leaves, s.down, bits}[what];
        }

        long law(int what, int which) {
            Long value = null;
            if (what == 2 && isScreen(which)) value = now.cut(now.screens.get(which));
            if ((what == 0 || what == 1) && isFolk(which)) {
                Person p = now.folk.get(which);
                value = what == 1 ? now.pay(p) : now.ageing(p, p.row, p.column, now.seasonAt(p.row, p.column));
            }
            return value == null ? Long.MIN_VALUE : value;
        }

        void remember(World before) {
            undo.add(before);
            if (undo.size() > 20) undo.remove(0);
        }

        long moved(int k, int r, int c, int down) {
            if (!now.fits(k, r, c, down)) return 0;
            remember(now.copy());
            Screen s = now.screens.get(k);
            s.row = r;
            s.column = c;
            s.down = down;
            return 1;
        }

        long carry(int k, int r, int c) {
            if (!isScreen(k)) return 0;
            Screen s = now.screens.get(k);
            return s.row == r && s.column == c ? 0 : moved(k, r, c, s.down);
        }

        long turn(int k) {
            if (!isScreen(k)) return 0;
            Screen s = now.screens.get(k);
            return moved(k, s.row, s.column, 1 - s.down);
        }

        int mend(int k) {
            if (!isScreen(k)) return -1;
            Screen s = now.screens.get(k);
            for (int c = 0; c < s.leaves; c++) {
                if (s.cut[c]) {
                    remember(now.copy());
                    now.screens.get(k).cut[c] = false;
                    return now.screens.get(k).whole();
                }
            }
            return -2;
        }

        int step(int k, int way) {
            if (!isFolk(k) || way < 0 || way > 3) return -1;
            World before = now.copy();
            if (!now.walk(now.folk.get(k), way)) return -2;
            remember(before);
            return now.folk.get(k).age;
        }

        int go(int n) {
            if (n < 0 || n > 99 || now.hour + n > 9900) return -1;
            now.draw = true;
            now.run(n);
            if (n > 0) undo.clear();
            return now.hour;
        }

        int ahead(int n, int what, int i) {
            if (n < 0 || n > 99 || what < 0 || what > 4) return -1;
            if (what < 2 && !isFolk(i) || what == 4 && (i < 0 || i > 4)) return -1;
            World w = now.copy();
            w.run(n);
            if (what == 0) return w.folk.get(i).age;
            if (what == 1) return w.folk.get(i).done;
            return what == 2 ? w.refused - now.refused : what == 3 ? w.wholeLeaves() : w.cellsOf(i);
        }

        int way(int k, int r, int c, boolean byAge) {
            if (!isFolk(k) || !now.inside(r, c)) return -1;
            int cost = now.costs(now.folk.get(k).row, now.folk.get(k).column, byAge)[r][c];
            return cost == 1 << 20 ? -2 : cost;
        }

        int stand(int k, int what) {
            if (!isScreen(k) || what < 0 || what > 3) return -1;
            int[] best = {-1, -1, -1, -1};
            for (int place = 0; place < now.rows * now.columns * 2; place++) {
                int r = place / 2 / now.columns;
                int c = place / 2 % now.columns;
                if (!now.fits(k, r, c, place % 2)) continue;
                World w = now.copy();
                w.screens.get(k).row = r;
                w.screens.get(k).column = c;
                w.screens.get(k).down = place % 2;
                if (w.working() > best[3]) best = new int[] {r, c, place % 2, w.working()};
            }
            return best[what];
        }

        int worth(int k) {
            if (!isScreen(k)) return Integer.MIN_VALUE;
            return worthBehind(k, 0);
        }

        /** Over all rows that go on from the screens that are there already. */
        int worthBehind(int k, int there) {
            int sum = 0;
            for (int next = 0; next < now.screens.size(); next++) {
                if ((there >> next & 1) == 1) continue;
                if (next == k) {
                    int rest = now.screens.size() - Integer.bitCount(there) - 1;
                    int rows = 1;
                    for (int f = 2; f <= rest; f++) rows *= f;
                    sum += rows * (now.only(there | 1 << k).working() - now.only(there).working());
                } else {
                    sum += worthBehind(k, there | 1 << next);
                }
            }
            return sum;
        }

        List<Integer> rests(int one, int other) {
            List<Integer> found = new ArrayList<>();
            Map<Integer, int[]> shares = new HashMap<>();
            for (int pair = 0; pair < 4; pair++) {
                World w = now.copy();
                Screen a = w.screens.get(one);
                Screen b = w.screens.get(other);
                if (pair / 2 == 1) a.down = 1 - a.down;
                if (pair % 2 == 1) b.down = 1 - b.down;
                boolean inside = true;
                for (int[] cell : a.cells(false)) inside &= w.inside(cell[0], cell[1]);
                for (int[] cell : b.cells(false)) inside &= w.inside(cell[0], cell[1]);
                if (inside) shares.put(pair, new int[] {w.cellsOf(a.season), w.cellsOf(b.season)});
            }
            for (int pair = 0; pair < 4; pair++) {
                int[] have = shares.get(pair);
                if (have == null) continue;
                int[] first = shares.getOrDefault((1 - pair / 2) * 2 + pair % 2, have);
                int[] second = shares.getOrDefault(pair / 2 * 2 + 1 - pair % 2, have);
                if (first[0] <= have[0] && second[1] <= have[1]) found.add(pair / 2 * 10 + pair % 2);
            }
            return found;
        }

        int rest(int one, int other, int k) {
            if (one == other || !isScreen(one) || !isScreen(other) || k < 0) return -1;
            List<Integer> all = rests(one, other);
            return k < all.size() ? all.get(k) : -2;
        }

        long holds(int k, int n, int what) {
            if (!isScreen(k) || n < 0 || n > 6 || what < 0 || what > 1) return -1;
            int times = now.screens.get(k).whole() == 0 ? 0 : n;
            java.math.BigInteger above = java.math.BigInteger.valueOf(100 - now.moth).pow(times);
            java.math.BigInteger below = java.math.BigInteger.valueOf(100).pow(times);
            java.math.BigInteger shared = above.gcd(below);
            return (what == 0 ? above : below).divide(shared).longValueExact();
        }

        int meet(int one, int other, int what) {
            if (one == other || !isFolk(one) || !isFolk(other) || what < 0 || what > 1) return -1;
            Person p = now.folk.get(one);
            Person q = now.folk.get(other);
            int[][] a = now.costs(p.row, p.column, false);
            int[][] b = now.costs(q.row, q.column, false);
            int best = 1 << 20;
            int cell = -1;
            for (int r = 0; r < now.rows; r++) {
                for (int c = 0; c < now.columns; c++) {
                    if (a[r][c] + b[r][c] < best) {
                        best = a[r][c] + b[r][c];
                        cell = 10 * r + c;
                    }
                }
            }
            return cell < 0 ? -2 : what == 0 ? best : cell;
        }

        int needed() {
            int n = now.screens.size();
            for (int size = 0; size <= n; size++) {
                for (int bits = 0; bits < 1 << n; bits++) {
                    if (Integer.bitCount(bits) != size) continue;
                    World w = now.only(bits);
                    boolean all = true;
                    for (Person p : now.folk) {
                        if (now.seasonAt(p.row, p.column) == p.work && w.seasonAt(p.row, p.column) != p.work) all = false;
                    }
                    if (all) return bits;
                }
            }
            return -7;
        }

        int nextTo(int k) {
            if (!isFolk(k)) return -1;
            int bits = 0;
            Person p = now.folk.get(k);
            for (int o = 0; o < now.folk.size(); o++) {
                Person q = now.folk.get(o);
                boolean near = p.row == q.row && p.column == q.column;
                for (int[] on : World.ON) near |= p.row + on[0] == q.row && p.column + on[1] == q.column;
                if (o != k && near) bits |= 1 << o;
            }
            return bits;
        }

        int see(int hours, int r, int c, int season, boolean is) {
            if (hours < 1 || hours > 40 || !now.inside(r, c) || season < 0 || season > 4 || seen.size() == 24) return -1;
            seen.add(new int[] {hours, r, c, season, is ? 1 : 0});
            return seen.size() - 1;
        }

        int out(int k) {
            if (k < 0 || k >= seen.size() || seen.size() == 24) return -1;
            seen.add(new int[] {k});
            return seen.size() - 1;
        }

        boolean known(int n) {
            if (n < -1 || n > seen.size()) return false;
            known = n;
            return true;
        }

        boolean struck(int k, int n) {
            for (int o = k + 1; o < n; o++) {
                if (seen.get(o).length == 1 && seen.get(o)[0] == k && !struck(o, n)) return true;
            }
            return false;
        }

        int painted(int k) {
            if (!isScreen(k)) return -1;
            int n = known < 0 ? seen.size() : known;
            int bits = 0;
            for (int season = 0; season < 4; season++) {
                boolean all = true;
                for (int o = 0; o < n && all; o++) {
                    int[] one = seen.get(o);
                    if (one.length == 1 || struck(o, n)) continue;
                    World w = start.copy();
                    w.screens.get(k).season = season;
                    w.run(one[0]);
                    all = (w.seasonAt(one[1], one[2]) == one[3]) == (one[4] == 1);
                }
                if (all) bits |= 1 << season;
            }
            return bits;
        }

        int chance(int seed, int n, int whole) {
            if (seed < 0 || n < 1 || n > 99 || whole < 0 || whole > 20) return -1;
            long number = seed;
            int times = 0;
            for (int k = 0; k < 10; k++) {
                World w = now.copy();
                w.draw = true;
                w.number = number;
                w.run(n);
                number = w.number;
                if (w.wholeLeaves() >= whole) times++;
            }
            return times;
        }

        int tried(int what, int i, int n) {
            if (what < 0 || what > 5 || n < 0 || n > 99 || (what == 2 ? !isScreen(i) : i != 0)) return -1;
            World w = now.copy();
            w.moths = what != 1;
            if (what == 2) w.screens.set(i, null);
            w.carrying = what != 3;
            w.stepping = what != 4;
            if (what == 5) for (Screen s : w.screens) Arrays.fill(s.cut, false);
            w.run(n);
            return w.done() - now.done();
        }

        int undo() {
            if (undo.isEmpty()) return -1;
            now = undo.remove(undo.size() - 1);
            return undo.size();
        }

        int keep() {
            image = now.copy();
            return now.hour;
        }

        int back() {
            if (image == null) return -1;
            now = image.copy();
            undo.clear();
            return now.hour;
        }

        int count(int what) {
            int age = 0;
            for (Person p : now.folk) age += p.age;
            int free = 0;
            for (int r = 0; r < now.rows; r++) for (int c = 0; c < now.columns; c++) if (now.leafAt(r, c) < 0) free++;
            int[] all = {now.screens.size(), now.folk.size(), now.rows, now.columns, now.knots, now.hour, now.wholeLeaves(),
                now.refused, now.done(), age, free, now.working(), seen.size(), known < 0 ? seen.size() : known, undo.size()};
            return what < 0 || what >= all.length ? -1 : all[what];
        }
    }

    /** Texts: mostly sound ones, some with a byte changed. */
    static final class Author {
        final Random random;
        final List<String> screens = new ArrayList<>();
        final List<String> folk = new ArrayList<>();

        Author(Random random) {
            this.random = random;
        }

        int to(int most) {
            return random.nextInt(most + 1);
        }

        String name() {
            String letters = "abz";
            StringBuilder all = new StringBuilder();
            for (int k = 0; k <= to(2) * to(2) + to(1); k++) all.append(letters.charAt(to(2)));
            return all.toString();
        }

        String expression(int depth) {
            if (depth == 0 || to(3) == 0) {
                return to(2) == 0 ? Integer.toString(to(3) == 0 ? to(9999) : to(60)) : NAMES.get(to(6));
            }
            String[] signs = {"+", "-", "*", "/", "<", "<=", "=", "<>", ">=", ">", " and ", " or ", "*", "+", "-"};
            switch (to(6)) {
                case 0: return "not " + expression(depth - 1);
                case 1: return "(" + expression(depth - 1) + ")";
                case 2: return "(" + expression(depth - 1) + ")" + signs[to(14)] + expression(depth - 1);
                default: return expression(depth - 1) + signs[to(14)] + expression(depth - 1);
            }
        }

        String write() {
            StringBuilder all = new StringBuilder();
            int rows = 4;
            int columns = 4;
            if (to(5) > 0) {
                rows = 1 + to(to(2) == 0 ? 7 : 4);
                columns = 1 + to(to(2) == 0 ? 7 : 4);
                all.append("room ").append(rows).append(' ').append(columns).append(';');
            }
            int lines = to(3) == 0 ? to(3) : to(16);
            if (to(1) == 0) all.append("moth ").append(to(1) == 0 ? 100 : to(100)).append(';');
            if (to(1) == 0) all.append("seed ").append(to(99999)).append(";\n");
            for (int k = 0; k < lines; k++) line(all, rows, columns);
            for (String rule : RULES) {
                if (to(2) == 0) all.append("law ").append(rule).append(' ').append(expression(to(4))).append(';');
            }
            String text = all.toString();
            for (int k = to(12) - 10; k > 0 && !text.isEmpty(); k--) text = mutated(text);
            return text;
        }

        void line(StringBuilder all, int rows, int columns) {
            int kind = to(7);
            if (kind < 3) {
                String name = name();
                screens.add(name);
                all.append("screen ").append(name).append(' ').append(to(3)).append(' ').append(to(rows - 1)).append(' ')
                    .append(to(columns - 1)).append(' ').append(1 + to(to(3))).append(' ').append(to(1)).append(';');
            } else if (kind < 5) {
                String name = name();
                folk.add(name);
                all.append("folk ").append(name).append(' ').append(to(99)).append(' ').append(to(rows - 1)).append(' ')
                    .append(to(columns - 1)).append(' ').append(to(3)).append(';');
            } else if (kind == 5 && !screens.isEmpty()) {
                all.append("carry ").append(screens.get(to(screens.size() - 1))).append(' ').append(to(to(1) == 0 ? 20 : 99))
                    .append(' ').append(to(rows - 1)).append(' ').append(to(columns - 1)).append(';');
            } else if (!folk.isEmpty()) {
                all.append("step ").append(folk.get(to(folk.size() - 1))).append(' ').append(to(to(1) == 0 ? 20 : 99))
                    .append(' ').append(to(3)).append(";\n");
            }
        }

        String mutated(String text) {
            int at = to(text.length() - 1);
            String[] pieces = {"", " ", ";", "(", ")", "<", ">", "=", "9", "a", "or", "not ", "and", "\t", "\u00e9", "room", "law "};
            String piece = pieces[to(pieces.length - 1)];
            return text.substring(0, at) + piece + text.substring(Math.min(text.length(), at + to(1)));
        }
    }

    private static int wrong = 0;
    private static long asked = 0;
    private static final Map<String, Set<Long>> SEEN_ANSWERS = new HashMap<>();

    private static void alike(String run, String call, long got, long want) {
        asked++;
        Set<Long> answers = SEEN_ANSWERS.computeIfAbsent(call.substring(0, call.indexOf('(')), k -> new HashSet<>());
        if (answers.size() < 50) answers.add(got);
        if (got == want) return;
        wrong++;
        if (wrong < 20) System.out.println(run + ": " + call + " answered " + got + ", the model says " + want);
    }

    private static int tell(ScreenRoom room, Model model, String text, String run) {
        int calls = 0;
        for (int at = 0; at < text.length(); at += 20) {
            int[] five = new int[5];
            for (int k = 0; k < 20; k++) five[k / 4] = five[k / 4] << 8 | (at + k < text.length() ? text.charAt(at + k) & 255 : 32);
            alike(run, "feed()", room.feed(five[0], five[1], five[2], five[3], five[4]), model.feed(five));
            calls++;
        }
        int length = text.length();
        alike(run, "text(" + length + ") " + text, room.text(length), model.text(length));
        alike(run, "fault(0) of " + text, room.fault(0), model.faultKind);
        alike(run, "fault(1) of " + text, room.fault(1), model.faultPlace);
        return calls + 3;
    }

    private static int pick(Random random, int most) {
        int[] wild = {-1, -2, most + 1, Integer.MAX_VALUE, Integer.MIN_VALUE, 100, 1 << 25};
        return random.nextInt(30) == 0 ? wild[random.nextInt(wild.length)] : random.nextInt(most + 1);
    }

    private static long folkOr(ScreenRoom room, Model model, int k, int what) {
        try {
            return room != null ? room.folk(k, what) : model.folk(k, what);
        } catch (IndexOutOfBoundsException e) {
            return -1001;
        } catch (NoSuchElementException e) {
            return -1002;
        }
    }

    private static void ask(ScreenRoom x, Model m, Random random, String run) {
        int s = pick(random, 4);
        int t = pick(random, 4);
        int f = pick(random, 5);
        int g = pick(random, 5);
        int r = pick(random, 7);
        int c = pick(random, 7);
        int n = pick(random, random.nextBoolean() ? 12 : 99);
        int what = pick(random, 3);
        String args = "(s" + s + " t" + t + " f" + f + " g" + g + " r" + r + " c" + c + " n" + n + " what" + what + ")";
        switch (random.nextInt(34)) {
            case 0: alike(run, "named" + args, x.named(what, s << 25 | t << 20), m.named(what, s << 25 | t << 20)); break;
            case 1: alike(run, "folk" + args, folkOr(x, null, f, g), folkOr(null, m, f, g)); break;
            case 2: alike(run, "screen" + args, x.screen(s, g), m.screen(s, g)); break;
            case 3: alike(run, "season" + args, x.season(r, c), m.now.inside(r, c) ? m.now.seasonAt(r, c) : -1); break;
            case 4: alike(run, "leaf" + args, x.leaf(r, c), m.now.inside(r, c) ? m.now.leafAt(r, c) : -1); break;
            case 5: alike(run, "law" + args, x.law(what, s), m.law(what, s)); break;
            case 6: alike(run, "carry" + args, x.carry(s, r, c) ? 1 : 0, m.carry(s, r, c)); break;
            case 7: alike(run, "turn" + args, x.turn(s) ? 1 : 0, m.turn(s)); break;
            case 8: alike(run, "mend" + args, x.mend(s), m.mend(s)); break;
            case 9: alike(run, "step" + args, x.step(f, what), m.step(f, what)); break;
            case 10: alike(run, "go" + args, x.go(n), m.go(n)); break;
            case 11: alike(run, "ahead" + args, x.ahead(n, s, f), m.ahead(n, s, f)); break;
            case 12: alike(run, "steps" + args, x.steps(f, r, c), m.way(f, r, c, false)); break;
            case 13: alike(run, "young" + args, x.young(f, r, c), m.way(f, r, c, true)); break;
            case 14: alike(run, "stand" + args, x.stand(s, what), m.stand(s, what)); break;
            case 15: alike(run, "ofSeason" + args, x.ofSeason(s), s < 0 || s > 4 ? -1 : m.now.cellsOf(s)); break;
            case 16: alike(run, "worth" + args, x.worth(s), m.worth(s)); break;
            case 17: alike(run, "rests" + args, x.rests(s, t), m.rest(s, t, 0) == -1 ? -1 : m.rests(s, t).size()); break;
            case 18: alike(run, "rest" + args, x.rest(s, t, what), m.rest(s, t, what)); break;
            case 19: alike(run, "holds" + args, x.holds(s, r, what), m.holds(s, r, what)); break;
            case 20: alike(run, "meet" + args, x.meet(f, g, what), m.meet(f, g, what)); break;
            case 21: alike(run, "needed()", x.needed(), m.needed()); break;
            case 22: alike(run, "nextTo" + args, x.nextTo(f), m.nextTo(f)); break;
            case 23: sight(x, m, random, run, r, c); break;
            case 24: alike(run, "out" + args, x.out(f), m.out(f)); break;
            case 25: alike(run, "known" + args, x.known(g - 1) ? 1 : 0, m.known(g - 1) ? 1 : 0); break;
            case 26: alike(run, "painted" + args, x.painted(s), m.painted(s)); break;
            case 27: alike(run, "chance" + args, x.chance(s * 12345, n, r), m.chance(s * 12345, n, r)); break;
            case 28: alike(run, "tried" + args, x.tried(f, f == 2 ? s : s / 4, n), m.tried(f, f == 2 ? s : s / 4, n)); break;
            case 29: alike(run, "undo()", x.undo(), m.undo()); break;
            case 30: alike(run, "keep()", x.keep(), m.keep()); break;
            case 31: alike(run, "back()", x.back(), m.back()); break;
            default: {
                int k = pick(random, 14);
                alike(run, "count(" + k + ")", x.count(k), m.count(k));
            }
        }
    }

    /** Mostly what is so, that some paintings are left. */
    private static void sight(ScreenRoom x, Model m, Random random, String run, int r, int c) {
        int hours = pick(random, 40);
        int season = pick(random, 4);
        boolean is = random.nextInt(4) == 0;
        if (random.nextInt(3) > 0 && m.now.inside(r, c) && hours > 0 && hours <= 40) {
            World w = m.start.copy();
            w.run(hours);
            season = w.seasonAt(r, c);
            is = true;
        }
        alike(run, "see(" + hours + ", " + r + ", " + c + ", " + season + ", " + is + ")", x.see(hours, r, c, season, is),
            m.see(hours, r, c, season, is));
    }

    private static boolean isRich(String text) {
        try {
            World w = new TextReader(text).read();
            return w.screens.size() > 1 && w.folk.size() > 1 && w.carries.size() + w.steps.size() > 1;
        } catch (Fault e) {
            return false;
        }
    }

    private static void oneRun(int seed) {
        Random random = new Random(seed);
        ScreenRoom room = new ScreenRoom();
        Model model = new Model();
        String run = "run " + seed;
        int calls = 0;
        int texts = 1 + random.nextInt(3);
        for (int k = 0; k < texts; k++) {
            String text = "";
            for (int tries = 0; tries < 300; tries++) {
                text = new Author(random).write();
                if (text.length() > 700) text = text.substring(0, 700);
                if (isRich(text) || random.nextInt(60) == 0) break;
            }
            calls += tell(room, model, text, run);
            int end = 512 * (k + 1) / texts;
            for (; calls < end; calls++) ask(room, model, random, run);
        }
    }

    /** Texts alone, as many as are written: most have a fault. */
    private static void textsOnly(int seed) {
        Random random = new Random(seed);
        ScreenRoom room = new ScreenRoom();
        Model model = new Model();
        for (int k = 0; k < 12; k++) {
            String text = new Author(random).write();
            if (text.length() > 700) text = text.substring(0, 700);
            tell(room, model, text, "texts " + seed);
            alike("texts " + seed, "count(4)", room.count(4), model.count(4));
        }
    }

    /** Any bytes and any arguments: no more is asked than that nothing throws, and that both agree. */
    private static void wildTexts(int seed) {
        Random random = new Random(seed);
        String[] pieces = {"room", "screen", "folk", "law", "pay", "cut", "a", "b", "1", "0", "2", "3", ";", ";", " ", " ", "(", ")",
            "<", ">", "=", "+", "-", "*", "/", "not", "and", "or", "hour", "near", "\n", "\u00ff", "moth", "seed", "carry", "step"};
        StringBuilder all = new StringBuilder();
        int length = random.nextInt(40);
        for (int k = 0; k < length; k++) all.append(pieces[random.nextInt(pieces.length)]).append(random.nextInt(3) == 0 ? "" : " ");
        ScreenRoom room = new ScreenRoom();
        Model model = new Model();
        tell(room, model, all.toString(), "wild " + seed);
        StringBuilder law = new StringBuilder("law pay ");
        for (int k = 0; k < length; k++) law.append(pieces[16 + random.nextInt(14)]).append(random.nextInt(3) == 0 ? "1" : " ");
        tell(room, model, law.append(';').toString(), "wild law " + seed);
    }

    public static void main(String[] args) {
        int runs = args.length > 0 ? Integer.parseInt(args[0]) : 400;
        for (int seed = 0; seed < runs; seed++) oneRun(seed);
        for (int seed = 0; seed < runs * 5; seed++) textsOnly(seed);
        for (int seed = 0; seed < runs * 25; seed++) wildTexts(seed);
        if (args.length > 0) {
            for (Map.Entry<String, Set<Long>> e : SEEN_ANSWERS.entrySet()) System.out.println(e.getKey() + ": " + e.getValue());
        }
        System.out.println(asked + " answers, " + wrong + " not as the model's");
        if (wrong != 0) System.exit(1);
    }
}
