import java.util.ArrayDeque;
import java.util.ArrayList;
import java.util.Arrays;
import java.util.Deque;
import java.util.HashMap;
import java.util.HashSet;
import java.util.List;
import java.util.Map;
import java.util.NoSuchElementException;
import java.util.Set;
import java.util.TreeMap;
import java.util.TreeSet;

/** The document once more, slow and by its words, for runs by draws against the program. */
public final class PlainLawn {
    private static final int NONE = -1;
    private static final int HIDDEN = -1000000;

    private static final class Fault extends RuntimeException {
        private static final long serialVersionUID = 1L;
        final int at;

        Fault(int at) {
            this.at = at;
        }
    }

    /** Set of TUFTS and EARTH, whose turn, and what else an IMAGE keeps. */
    private static final class Scene {
        Set<Integer> tufts = new TreeSet<>();
        Set<Integer> earth = new TreeSet<>();
        int turn;
        boolean won;
        int day;
        int[] thistles = new int[2];
        int meant;
        List<int[]> log = new ArrayList<>();

        Scene copy() {
            Scene c = new Scene();
            c.tufts.addAll(tufts);
            c.earth.addAll(earth);
            c.turn = turn;
            c.won = won;
            c.day = day;
            c.thistles = thistles.clone();
            c.meant = meant;
            c.log.addAll(log);
            return c;
        }
    }

    private interface Sum {
        int of(Map<Character, Integer> letters);
    }

    private interface Truth {
        boolean of(Map<Character, Integer> letters);
    }

    private record LawClause(Truth condition, Sum sum) {
    }

    private record Plan(Map<Character, Integer> rules, Set<Integer> tufts, Set<Integer> beds) {
    }

    private String tape = "";
    private Plan plan;
    private int w;
    private int h;
    private Scene now = new Scene();
    private Scene image;
    private Deque<Scene> undo = new ArrayDeque<>();
    private final List<List<LawClause>> laws = new ArrayList<>();
    private final List<List<int[]>> games = new ArrayList<>();
    private final List<int[]> books = new ArrayList<>();
    private int holding = NONE;
    private int dryness;
    private long x;

    // ---- texts

    private final class Reader {
        int at;

        Reader() {
            blanks();
        }

        void blanks() {
            while (at < tape.length() && tape.charAt(at) == ' ') {
                at++;
            }
        }

        char look() {
            return at < tape.length() ? tape.charAt(at) : 0;
        }

        char next() {
            char c = look();
            at++;
            blanks();
            return c;
        }

        char oneOf(String signs) {
            if (at >= tape.length() || signs.indexOf(look()) < 0) {
                throw new Fault(at);
            }
            return next();
        }

        boolean sees(String signs) {
            return at < tape.length() && signs.indexOf(look()) >= 0;
        }

        int number(int digits, int low, int high) {
            int from = at;
            while (at < tape.length() && Character.isDigit(tape.charAt(at)) && tape.charAt(at) < 128) {
                at++;
            }
            int many = at - from;
            if (many == 0) {
                throw new Fault(from);
            }
            if (many > digits) {
                throw new Fault(from + digits);
            }
            int value = Integer.parseInt(tape.substring(from, at));
            if (value < low || value > high) {
                throw new Fault(at - 1);
            }
            blanks();
            return value;
        }

        void end() {
            if (at < tape.length()) {
                throw new Fault(at);
            }
        }
    }

    private Plan readLawn() {
        Reader r = new Reader();
        Map<Character, Integer> rules = new HashMap<>(
            Map.of('w', 5, 'h', 4, 'q', 3, 'k', 2, 'l', 0, 'u', 8, 'x', 0));
        Map<Character, int[]> bounds = Map.of('w', new int[] {1, 6}, 'h', new int[] {1, 5}, 'q', new int[] {2, 5},
            'k', new int[] {1, 5}, 'l', new int[] {0, 8}, 'u', new int[] {0, 8}, 'x', new int[] {0, 1},
            'c', new int[] {0, 29});
        List<Integer> tufts = new ArrayList<>();
        List<Integer> beds = new ArrayList<>();
        boolean ruled = false;
        while (true) {
            String may = (ruled ? "" : "s") + (tufts.size() < 12 ? "t" : "") + (beds.size() < 8 ? "b" : "");
            char kind = r.oneOf(may);
            String letters = kind == 's' ? "whqklux" : "c";
            Map<Character, Integer> items = new HashMap<>();
            while (r.sees(letters)) {
                char letter = r.next();
                letters = letters.replace("" + letter, "");
                items.put(letter, r.number(2, bounds.get(letter)[0], bounds.get(letter)[1]));
            }
            if (kind == 's') {
                ruled = true;
                rules.putAll(items);
            } else {
                (kind == 't' ? tufts : beds).add(items.getOrDefault('c', 0));
            }
            if (!r.sees(";")) {
                break;
            }
            r.next();
        }
        r.end();
        List<Integer> all = new ArrayList<>(tufts);
        all.addAll(beds);
        boolean bad = new HashSet<>(all).size() != all.size() || rules.get('l') > rules.get('u');
        for (int cell : all) {
            bad |= cell >= rules.get('w') * rules.get('h');
        }
        Plan told = new Plan(rules, new TreeSet<>(tufts), new TreeSet<>(beds));
        if (bad || longestIn(told.tufts, rules.get('w'), rules.get('h')) >= rules.get('q')) {
            throw new Fault(tape.length());
        }
        return told;
    }

    private List<LawClause> readLaw() {
        Reader r = new Reader();
        List<LawClause> law = new ArrayList<>();
        do {
            if (!law.isEmpty()) {
                r.next();
            }
            r.oneOf("y");
            r.oneOf(":");
            Truth condition = null;
            Sum sum = null;
            if (r.sees("!(")) {
                condition = condition(r, 0, null);
            } else {
                sum = sum(r, 0);
                if (r.sees("=<>")) {
                    condition = condition(r, 0, compare(r, 0, sum));
                    sum = null;
                }
            }
            if (sum == null) {
                r.oneOf("?");
                sum = sum(r, 0);
            }
            law.add(new LawClause(condition, sum));
        } while (r.sees(";"));
        r.end();
        return law;
    }

    private Truth condition(Reader r, int depth, Truth begun) {
        Truth left = truth(r, depth, begun);
        while (r.sees("|")) {
            r.next();
            Truth a = left;
            Truth b = truth(r, depth, null);
            left = l -> a.of(l) || b.of(l);
        }
        return left;
    }

    private Truth truth(Reader r, int depth, Truth begun) {
        Truth left = begun == null ? unit(r, depth) : begun;
        while (r.sees("&")) {
            r.next();
            Truth a = left;
            Truth b = unit(r, depth);
            left = l -> a.of(l) && b.of(l);
        }
        return left;
    }

    private void deeper(Reader r, int depth) {
        if (depth == 6) {
            throw new Fault(r.at);
        }
        r.next();
    }

    private Truth unit(Reader r, int depth) {
        if (r.sees("!")) {
            deeper(r, depth);
            Truth a = unit(r, depth + 1);
            return l -> !a.of(l);
        }
        if (r.sees("(")) {
            deeper(r, depth);
            Truth a = condition(r, depth + 1, null);
            r.oneOf(")");
            return a;
        }
        return compare(r, depth, sum(r, depth));
    }

    private Truth compare(Reader r, int depth, Sum a) {
        char sign = r.oneOf("=<>");
        Sum b = sum(r, depth);
        return l -> sign == '=' ? a.of(l) == b.of(l) : sign == '<' ? a.of(l) < b.of(l) : a.of(l) > b.of(l);
    }

    private static int bounded(long v) {
        return (int) Math.max(-1000000, Math.min(1000000, v));
    }

    private Sum sum(Reader r, int depth) {
        Sum left = term(r, depth);
        while (r.sees("+-")) {
            char sign = r.next();
            Sum a = left;
            Sum b = term(r, depth);
            left = l -> bounded(sign == '+' ? a.of(l) + b.of(l) : a.of(l) - b.of(l));
        }
        return left;
    }

    private Sum term(Reader r, int depth) {
        Sum left = atom(r, depth);
        while (r.sees("*/")) {
            char sign = r.next();
            Sum a = left;
            Sum b = atom(r, depth);
            left = sign == '*' ? l -> bounded((long) a.of(l) * b.of(l)) : l -> b.of(l) == 0 ? 0 : a.of(l) / b.of(l);
        }
        return left;
    }

    private Sum atom(Reader r, int depth) {
        if (r.sees("[")) {
            deeper(r, depth);
            Sum a = sum(r, depth + 1);
            r.oneOf("]");
            return a;
        }
        if (r.sees("trcbdo")) {
            char letter = r.next();
            return l -> l.get(letter);
        }
        int value = r.number(4, 0, 9999);
        return l -> value;
    }

    private List<int[]> readGame() {
        Reader r = new Reader();
        List<int[]> moves = new ArrayList<>();
        while (true) {
            char kind = r.oneOf("gcmx");
            int[] move = {"gcmx".indexOf(kind), NONE, 0, 0};
            if (kind == 'g' && r.sees("?")) {
                r.next();
            } else if (kind != 'x') {
                move[1] = r.number(2, 0, 29);
            }
            if (kind == 'c') {
                move[2] = "rd".indexOf(r.oneOf("rd"));
                move[3] = r.oneOf("12345") - '0';
            }
            moves.add(move);
            if (!r.sees(";") || moves.size() == 16) {
                break;
            }
            r.next();
        }
        r.end();
        return moves;
    }

    public int feed(int a, int b, int c, int d, int e) {
        StringBuilder more = new StringBuilder();
        for (int n : new int[] {a, b, c, d, e}) {
            for (int i = 3; i >= 0; i--) {
                char one = (char) (n >> 8 * i & 255);
                if (one != 0) {
                    more.append(one);
                }
            }
        }
        if (tape.length() + more.length() > 240) {
            return NONE;
        }
        tape += more;
        return tape.length();
    }

    public boolean end(int n) {
        if (n < 0 || n > tape.length()) {
            return false;
        }
        tape = tape.substring(0, n);
        return true;
    }

    public int fault(int sort) {
        try {
            switch (sort) {
                case 0 -> readLawn();
                case 1 -> readLaw();
                case 2 -> readGame();
                default -> {
                    return -2;
                }
            }
        } catch (Fault f) {
            return f.at;
        }
        return NONE;
    }

    public int text(int sort) {
        if (fault(sort) != NONE || sort == 1 && laws.size() == 4 || sort == 2 && games.size() == 4) {
            return NONE;
        }
        if (sort == 1) {
            laws.add(readLaw());
            tape = "";
            return laws.size() - 1;
        }
        if (sort == 2) {
            games.add(readGame());
            tape = "";
            return games.size() - 1;
        }
        plan = readLawn();
        tape = "";
        w = plan.rules.get('w');
        h = plan.rules.get('h');
        now = new Scene();
        now.tufts.addAll(plan.tufts);
        now.turn = plan.rules.get('x');
        image = null;
        undo.clear();
        books.clear();
        return w * h;
    }

    // ---- what is there

    private boolean is(int cell) {
        return plan != null && cell >= 0 && cell < w * h;
    }

    private static int at(int row, int column, int w, int h) {
        return row < 0 || row >= h || column < 0 || column >= w ? NONE : row * w + column;
    }

    private int around(int cell, Set<Integer> what) {
        int many = 0;
        for (int dr = -1; dr <= 1; dr++) {
            for (int dc = -1; dc <= 1; dc++) {
                if ((dr != 0 || dc != 0) && what.contains(at(cell / w + dr, cell % w + dc, w, h))) {
                    many++;
                }
            }
        }
        return many;
    }

    private static int longestIn(Set<Integer> tufts, int w, int h) {
        int most = 0;
        int[][] ways = {{0, 1}, {1, 0}, {1, 1}, {1, -1}};
        for (int cell : tufts) {
            for (int[] way : ways) {
                int many = 0;
                while (tufts.contains(at(cell / w + many * way[0], cell % w + many * way[1], w, h))) {
                    many++;
                }
                most = Math.max(most, many);
            }
        }
        return most;
    }

    private boolean line(Set<Integer> tufts) {
        return longestIn(tufts, w, h) >= plan.rules.get('q');
    }

    private boolean grass(int cell, Scene s) {
        return is(cell) && !s.tufts.contains(cell) && !s.earth.contains(cell) && !plan.beds.contains(cell);
    }

    private boolean mayGrow(int cell, Scene s) {
        if (!grass(cell, s)) {
            return false;
        }
        int t = around(cell, s.tufts);
        if (holding == NONE) {
            return t >= plan.rules.get('l') && t <= plan.rules.get('u');
        }
        Map<Character, Integer> letters = Map.of('t', t, 'r', cell / w, 'c', cell % w, 'b', around(cell, plan.beds),
            'd', s.day, 'o', s.tufts.size());
        for (LawClause clause : laws.get(holding)) {
            if (clause.condition == null || clause.condition.of(letters)) {
                return clause.sum.of(letters) > 0;
            }
        }
        return false;
    }

    private List<Integer> growable(Scene s) {
        List<Integer> cells = new ArrayList<>();
        for (int cell = 0; cell < w * h; cell++) {
            if (mayGrow(cell, s)) {
                cells.add(cell);
            }
        }
        return cells;
    }

    private static Set<Integer> with(Set<Integer> set, int cell) {
        Set<Integer> more = new TreeSet<>(set);
        more.add(cell);
        return more;
    }

    private List<Integer> threatCells(Scene s) {
        List<Integer> cells = growable(s);
        cells.removeIf(cell -> !line(with(s.tufts, cell)));
        return cells;
    }

    private static int bits(Iterable<Integer> cells) {
        int all = 0;
        for (int cell : cells) {
            all |= 1 << cell;
        }
        return all;
    }

    /** The CELLS of a CUT; null: no such one. */
    private List<Integer> cutCells(Set<Integer> tufts, int cell, int way, int n) {
        if (!is(cell) || way < 0 || way > 1 || n < 1 || n > plan.rules.get('k')) {
            return null;
        }
        List<Integer> cells = new ArrayList<>();
        for (int i = 0; i < n; i++) {
            cells.add(way == 0 ? at(cell / w, cell % w + i, w, h) : at(cell / w + i, cell % w, w, h));
        }
        return tufts.containsAll(cells) ? cells : null;
    }

    private TreeMap<Integer, List<Integer>> allCuts(Set<Integer> tufts) {
        TreeMap<Integer, List<Integer>> cuts = new TreeMap<>();
        for (int cell = 0; cell < w * h; cell++) {
            for (int way = 0; way < 2; way++) {
                for (int n = 1; n <= 5; n++) {
                    List<Integer> cells = cutCells(tufts, cell, way, n);
                    if (cells != null) {
                        cuts.put(100 * cell + 10 * (n == 1 ? 0 : way) + n, cells);
                    }
                }
            }
        }
        return cuts;
    }

    /** The scene behind a CUT, or behind sitting out (null), whoever's turn it was. */
    private Scene behindDay(Scene s, List<Integer> cut) {
        Scene then = s.copy();
        if (cut != null) {
            then.tufts.removeAll(cut);
        }
        then.day++;
        then.turn = 0;
        return then;
    }

    private boolean step(Scene s, int what, int cell, int way, int n) {
        if (plan == null || s.won) {
            return false;
        }
        boolean threat = false;
        if (what == 0) {
            if (s.turn != 0 || !mayGrow(cell, s)) {
                return false;
            }
            threat = !threatCells(s).isEmpty();
            s.tufts.add(cell);
            s.won = line(s.tufts);
            s.turn = 1;
            if (threat && !s.won) {
                s.meant++;
            }
        } else if (what == 1) {
            List<Integer> cells = cutCells(s.tufts, cell, way, n);
            if (s.turn != 1 || cells == null) {
                return false;
            }
            s.tufts.removeAll(cells);
            s.turn = 0;
            s.day++;
        } else if (what == 2) {
            if (!is(cell) || plan.beds.contains(cell) || s.earth.contains(cell)) {
                return false;
            }
            s.tufts.remove(cell);
            s.earth.add(cell);
        } else {
            s.thistles[s.turn]++;
            s.day += s.turn;
            s.turn = 1 - s.turn;
        }
        s.log.add(new int[] {what, what == 3 ? NONE : cell, what == 1 && n > 1 ? way : 0, what == 1 ? n : 0});
        return true;
    }

    private boolean act(int what, int cell, int way, int n) {
        Scene before = now.copy();
        if (!step(now, what, cell, way, n)) {
            return false;
        }
        undo.addLast(before);
        if (undo.size() > 40) {
            undo.removeFirst();
        }
        return true;
    }

    // ---- the face

    public int rule(int what) {
        return plan == null || what < 0 || what > 5 ? NONE : plan.rules.get("whqklu".charAt(what));
    }

    public int cell(int cell, int what) {
        if (!is(cell) || what < 0 || what > 2) {
            throw new NoSuchElementException();
        }
        if (what == 0) {
            return now.tufts.contains(cell) ? 1 : plan.beds.contains(cell) ? 2 : now.earth.contains(cell) ? 3 : 0;
        }
        return what == 1 ? around(cell, now.tufts) : mayGrow(cell, now) ? 1 : 0;
    }

    public boolean law(int law) {
        if (law < NONE || law >= laws.size()) {
            return false;
        }
        holding = law;
        return true;
    }

    public boolean drought(int v) {
        if (v < 0 || v > 99 || v == dryness) {
            return false;
        }
        dryness = v;
        return true;
    }

    public int grow(int cell) {
        return act(0, cell, 0, 0) ? now.won ? 1 : 0 : NONE;
    }

    public int cut(int cell, int way, int n) {
        return act(1, cell, way, n) ? now.day : NONE;
    }

    public int sit() {
        int who = now.turn;
        return act(3, NONE, 0, 0) ? now.thistles[who] : NONE;
    }

    public int mole(int cell) {
        return act(2, cell, 0, 0) ? now.tufts.size() : NONE;
    }

    private int draw(int m) {
        x = x * 6364136223846793005L + 1442695040888963407L;
        return (int) ((x >>> 33) % m);
    }

    public int games(int n, long seed) {
        if (plan == null || now.won || n < 1 || n > 30) {
            return NONE;
        }
        x = seed;
        for (int i = 0; i < n && !now.won; i++) {
            if (now.turn == 1) {
                act(3, NONE, 0, 0);
            }
            boolean dry = draw(100) < dryness;
            List<Integer> cells = growable(now);
            if (dry || cells.isEmpty()) {
                act(3, NONE, 0, 0);
            } else {
                act(0, cells.get(draw(cells.size())), 0, 0);
            }
            if (!now.won) {
                int code = advice(0);
                if (code == NONE) {
                    act(3, NONE, 0, 0);
                } else {
                    act(1, code / 100, code / 10 % 10, code % 10);
                }
            }
        }
        return now.day;
    }

    public int undo() {
        if (undo.isEmpty()) {
            return NONE;
        }
        now = undo.removeLast();
        return undo.size();
    }

    public int log(int i, int what) {
        if (i < 0 || i >= Math.min(60, now.log.size()) || what < 0 || what > 3) {
            return HIDDEN;
        }
        return now.log.get(now.log.size() - 1 - i)[what];
    }

    public int move(int game, int i, int what) {
        if (game < 0 || game >= games.size() || i < 0 || i >= games.get(game).size() || what < 0 || what > 3) {
            return HIDDEN;
        }
        return games.get(game).get(i)[what];
    }

    private int leafCell(int[] move, Scene s) {
        if (move[0] != 0 || move[1] != NONE) {
            return move[1];
        }
        List<Integer> cells = growable(s);
        return cells.isEmpty() ? NONE : cells.get(0);
    }

    public int run(int game) {
        if (game < 0 || game >= games.size() || plan == null) {
            return HIDDEN;
        }
        Scene s = now.copy();
        int done = 0;
        for (int[] move : games.get(game)) {
            if (!step(s, move[0], leafCell(move, s), move[2], move[3])) {
                return done;
            }
            done++;
        }
        return NONE;
    }

    public int perform(int game) {
        if (game < 0 || game >= games.size() || plan == null) {
            return NONE;
        }
        int done = 0;
        for (int[] move : games.get(game)) {
            if (!act(move[0], leafCell(move, now), move[2], move[3])) {
                return done;
            }
            done++;
        }
        return done;
    }

    private static int pick(List<Integer> all, int i) {
        return i == NONE ? all.size() : i >= 0 && i < all.size() ? all.get(i) : NONE;
    }

    public int missing(int game, int tufts, int i) {
        if (game < 0 || game >= games.size() || plan == null || tufts < 0 || tufts >> w * h != 0) {
            return NONE;
        }
        List<int[]> moves = games.get(game);
        int leaves = 0;
        for (int[] move : moves) {
            leaves += move[0] == 0 && move[1] == NONE ? 1 : 0;
        }
        if (leaves > 3) {
            return NONE;
        }
        int ways = leaves == 0 ? 1 : leaves == 1 ? 30 : leaves == 2 ? 900 : 27000;
        List<Integer> found = new ArrayList<>();
        for (int code = 0; code < ways; code++) {
            if (fits(moves, code, ways, tufts)) {
                found.add(code);
            }
        }
        return pick(found, i);
    }

    private boolean fits(List<int[]> moves, int code, int ways, int tufts) {
        Scene s = now.copy();
        s.log.clear();
        int base = ways;
        for (int[] move : moves) {
            int cell = move[1];
            if (move[0] == 0 && cell == NONE) {
                base /= 30;
                cell = code / base % 30;
            }
            if (!step(s, move[0], cell, move[2], move[3])) {
                return false;
            }
        }
        return bits(s.tufts) == tufts;
    }

    public int threats() {
        return plan == null ? NONE : bits(threatCells(now));
    }

    public int cuts(int i) {
        return plan == null ? NONE : pick(new ArrayList<>(allCuts(now.tufts).keySet()), i);
    }

    public int answers(int i) {
        if (plan == null) {
            return NONE;
        }
        List<Integer> good = new ArrayList<>();
        allCuts(now.tufts).forEach((code, cells) -> {
            if (threatCells(behindDay(now, cells)).isEmpty()) {
                good.add(code);
            }
        });
        return pick(good, i);
    }

    public int advice(int what) {
        if (plan == null || what < 0 || what > 1 || now.tufts.isEmpty()) {
            return NONE;
        }
        int[] best = null;
        for (Map.Entry<Integer, List<Integer>> cut : allCuts(now.tufts).entrySet()) {
            int[] one = {threatCells(behindDay(now, cut.getValue())).size(), -cut.getValue().size(), cut.getKey()};
            if (best == null || Arrays.compare(one, best) < 0) {
                best = one;
            }
        }
        return what == 0 ? best[2] : best[0];
    }

    private boolean houseHolds(Scene s) {
        List<List<Integer>> options = new ArrayList<>(allCuts(s.tufts).values());
        options.add(null);
        for (List<Integer> option : options) {
            if (threatCells(behindDay(s, option)).isEmpty()) {
                return true;
            }
        }
        return false;
    }

    private boolean losesBy(int cell) {
        Scene s = now.copy();
        s.tufts.add(cell);
        return line(s.tufts) || !houseHolds(s);
    }

    public int holds(int n) {
        if (plan == null || now.won || now.turn != 0 || n < 1 || n > 2) {
            return NONE;
        }
        if (n == 1) {
            return threatCells(now).isEmpty() ? 1 : 0;
        }
        return houseHolds(now) && forced() == NONE ? 1 : 0;
    }

    public int forced() {
        if (plan == null || now.won || now.turn != 0) {
            return NONE;
        }
        for (int cell : growable(now)) {
            if (losesBy(cell)) {
                return cell;
            }
        }
        return NONE;
    }

    public int meant() {
        return plan == null ? NONE : now.meant;
    }

    // ---- ends

    private List<Set<Integer>> partsOf(Set<Integer> tufts) {
        List<Set<Integer>> parts = new ArrayList<>();
        Set<Integer> left = new TreeSet<>(tufts);
        while (!left.isEmpty()) {
            Set<Integer> part = new TreeSet<>();
            Deque<Integer> open = new ArrayDeque<>();
            open.add(left.iterator().next());
            while (!open.isEmpty()) {
                int cell = open.removeFirst();
                if (left.remove(cell)) {
                    part.add(cell);
                    open.add(at(cell / w - 1, cell % w, w, h));
                    open.add(at(cell / w + 1, cell % w, w, h));
                    open.add(at(cell / w, cell % w - 1, w, h));
                    open.add(at(cell / w, cell % w + 1, w, h));
                }
            }
            parts.add(part);
        }
        return parts;
    }

    private int sum(Set<Integer> tufts, Map<Set<Integer>, Integer> known) {
        int all = 0;
        for (Set<Integer> part : partsOf(tufts)) {
            Integer value = known.get(part);
            if (value == null) {
                Set<Integer> left = new HashSet<>();
                for (List<Integer> cut : allCuts(part).values()) {
                    Set<Integer> rest = new TreeSet<>(part);
                    rest.removeAll(cut);
                    left.add(sum(rest, known));
                }
                value = 0;
                while (left.contains(value)) {
                    value++;
                }
                known.put(part, value);
            }
            all ^= value;
        }
        return all;
    }

    private int least(Set<Integer> tufts, Map<Set<Integer>, Integer> known) {
        if (tufts.isEmpty()) {
            return 0;
        }
        Integer value = known.get(tufts);
        if (value == null) {
            value = 1000;
            for (List<Integer> cut : allCuts(tufts).values()) {
                Set<Integer> rest = new TreeSet<>(tufts);
                rest.removeAll(cut);
                value = Math.min(value, 1 + least(rest, known));
            }
            known.put(tufts, value);
        }
        return value;
    }

    private boolean large() {
        for (Set<Integer> part : partsOf(now.tufts)) {
            if (part.size() > 12) {
                return true;
            }
        }
        return false;
    }

    public int parts(int i) {
        if (plan == null) {
            return NONE;
        }
        List<Integer> all = new ArrayList<>();
        for (Set<Integer> part : partsOf(now.tufts)) {
            all.add(bits(part));
        }
        return pick(all, i);
    }

    public int sumOf(int i) {
        if (plan == null) {
            return HIDDEN;
        }
        List<Set<Integer>> all = partsOf(now.tufts);
        return i < 0 || i >= all.size() || all.get(i).size() > 12 ? HIDDEN : sum(all.get(i), new HashMap<>());
    }

    public int winning() {
        if (plan == null || large()) {
            return plan == null ? NONE : HIDDEN;
        }
        Map<Set<Integer>, Integer> known = new HashMap<>();
        for (Map.Entry<Integer, List<Integer>> cut : allCuts(now.tufts).entrySet()) {
            Set<Integer> rest = new TreeSet<>(now.tufts);
            rest.removeAll(cut.getValue());
            if (sum(rest, known) == 0) {
                return cut.getKey();
            }
        }
        return NONE;
    }

    public int fewest() {
        if (plan == null || large()) {
            return plan == null ? NONE : HIDDEN;
        }
        int all = 0;
        for (Set<Integer> part : partsOf(now.tufts)) {
            all += least(part, new HashMap<>());
        }
        return all;
    }

    // ---- books, mirrors, odds

    public int book(int cell, boolean may) {
        if (!grass(cell, now) || books.size() == 12) {
            return NONE;
        }
        books.add(new int[] {around(cell, now.tufts), may ? 1 : 0});
        return books.size();
    }

    private List<Integer> pairs() {
        List<Integer> pairs = new ArrayList<>();
        for (int pair = 0; pair <= 88; pair++) {
            boolean fits = pair / 10 <= pair % 10 && pair % 10 <= 8;
            for (int[] book : books) {
                fits &= (book[0] >= pair / 10 && book[0] <= pair % 10) == (book[1] == 1);
            }
            if (fits) {
                pairs.add(pair);
            }
        }
        return pairs;
    }

    public int fit(int i) {
        return plan == null ? NONE : pick(pairs(), i);
    }

    public int tells() {
        int best = NONE;
        int least = 1000;
        for (int cell = 0; plan != null && cell < w * h; cell++) {
            if (grass(cell, now)) {
                int t = around(cell, now.tufts);
                int may = 0;
                int not = 0;
                for (int pair : pairs()) {
                    if (t >= pair / 10 && t <= pair % 10) {
                        may++;
                    } else {
                        not++;
                    }
                }
                if (Math.abs(may - not) < least) {
                    least = Math.abs(may - not);
                    best = cell;
                }
            }
        }
        return best;
    }

    /** Where a CELL goes: quarter turns, then perhaps mirrored. */
    private int turned(int cell, int quarters, boolean mirrored) {
        int r = cell / w;
        int c = cell % w;
        int rows = h;
        int columns = w;
        for (int i = 0; i < quarters; i++) {
            int old = r;
            r = c;
            c = rows - 1 - old;
            int swap = rows;
            rows = columns;
            columns = swap;
        }
        if (mirrored) {
            c = columns - 1 - c;
        }
        return r * columns + c;
    }

    private Set<Integer> turned(Set<Integer> cells, int quarters, boolean mirrored) {
        Set<Integer> there = new TreeSet<>();
        for (int cell : cells) {
            there.add(turned(cell, quarters, mirrored));
        }
        return there;
    }

    public int alike(int what) {
        if (plan == null || what < 0 || what > 1) {
            return NONE;
        }
        int same = 0;
        int least = Integer.MAX_VALUE;
        for (int turn = 0; turn < 8; turn += w == h ? 1 : 2) {
            Set<Integer> there = turned(now.tufts, turn % 4, turn >= 4);
            same += there.equals(now.tufts) ? 1 : 0;
            least = Math.min(least, bits(there));
        }
        return what == 0 ? same : least;
    }

    public int openings() {
        if (plan == null) {
            return NONE;
        }
        Set<Integer> left = new TreeSet<>(growable(now));
        int many = 0;
        while (!left.isEmpty()) {
            many++;
            int cell = left.iterator().next();
            for (int turn = 0; turn < 8; turn += w == h ? 1 : 2) {
                int q = turn % 4;
                boolean m = turn >= 4;
                if (turned(now.tufts, q, m).equals(now.tufts) && turned(plan.beds, q, m).equals(plan.beds)
                    && turned(now.earth, q, m).equals(now.earth)) {
                    left.remove(turned(cell, q, m));
                }
            }
        }
        return many;
    }

    public int odds(int n, int chance) {
        if (plan == null || n < 0 || n > 3 || chance < 0 || chance > 100) {
            return NONE;
        }
        if (now.won) {
            return 1000000000;
        }
        Scene s = now.turn == 1 ? behindDay(now, null) : now.copy();
        s.log.clear();
        return (int) wonOf(s, n, chance, 1000000000L);
    }

    private long wonOf(Scene s, int n, int chance, long parts) {
        if (line(s.tufts)) {
            return parts;
        }
        if (n == 0) {
            return 0;
        }
        List<Integer> cells = growable(s);
        long stay = cells.isEmpty() ? parts : parts * chance / 100;
        long won = wonOf(behindDay(s, null), n - 1, chance, stay);
        for (int i = 0; i < cells.size(); i++) {
            long lot = (parts - stay) / cells.size();
            if (i == cells.size() - 1) {
                lot += (parts - stay) % cells.size();
            }
            Scene then = behindDay(s, null);
            then.tufts.add(cells.get(i));
            won += wonOf(then, n - 1, chance, lot);
        }
        return won;
    }

    public int where(int what) {
        if (plan == null || what < 0 || what > 1) {
            return NONE;
        }
        int best = NONE;
        int least = 1000;
        for (int cell = 0; cell < w * h; cell++) {
            if (!plan.beds.contains(cell) && !now.earth.contains(cell)) {
                Scene s = now.copy();
                s.tufts.remove(cell);
                s.earth.add(cell);
                int many = threatCells(s).size();
                if (many < least) {
                    least = many;
                    best = cell;
                }
            }
        }
        return best == NONE || what == 0 ? best : least;
    }

    public int room() {
        return plan == null ? NONE : growable(now).size();
    }

    public int longest() {
        return plan == null ? NONE : longestIn(now.tufts, w, h);
    }

    public int image() {
        if (plan == null) {
            return NONE;
        }
        image = now.copy();
        return now.day;
    }

    public int back() {
        if (image == null) {
            return NONE;
        }
        now = image.copy();
        undo.clear();
        return now.day;
    }

    public int count(int what) {
        int[] all = {plan == null ? 0 : w * h, now.tufts.size(), laws.size(), games.size(), tape.length(), holding,
            now.day, now.turn, now.won ? 1 : 0, now.thistles[0], now.thistles[1], dryness, books.size(),
            Math.min(60, now.log.size()), undo.size(), bits(now.tufts)};
        return what < 0 || what >= all.length ? HIDDEN : all[what];
    }
}
