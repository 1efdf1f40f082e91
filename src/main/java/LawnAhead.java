import java.util.Arrays;
import java.util.NoSuchElementException;

/** The lawn is one move ahead: see ../shared/DOC.md for the words in capitals. */
public final class LawnAhead {
    public static final int NONE = -1;
    public static final int HIDDEN = -1000000;

    private static final int MOST_CELLS = 30;
    private static final int MOST_TEXTS = 4;
    private static final int NIGHT = 0;
    private static final int DAY = 1;
    private static final int GROWN = 0;
    private static final int CUT = 1;
    private static final int MOLE = 2;
    private static final int SAT = 3;
    private static final int RIGHT = 0;
    private static final int DOWN = 1;
    private static final int ALL_PARTS = 1000000000;

    private final Tape tape;
    private final Law[] lawShelf;
    private final Game[] gameShelf;
    private final State now;
    private final History history;
    private final Sight sight;
    private final Play play;
    private final Ahead ahead;
    private final Ends ends;
    private final Books books;
    private Ground ground;
    private Ground spare;
    private int lawCount;
    private int gameCount;
    private int holding;
    private int dryness;
    private long drawn;

    public LawnAhead() {
        tape = new Tape();
        lawShelf = new Law[MOST_TEXTS + 1];
        gameShelf = new Game[MOST_TEXTS + 1];
        for (int i = 0; i <= MOST_TEXTS; i++) {
            lawShelf[i] = new Law();
            gameShelf[i] = new Game();
        }
        now = new State();
        history = new History();
        ground = new Ground();
        spare = new Ground();
        sight = new Sight(ground);
        play = new Play(sight);
        ahead = new Ahead(sight);
        ends = new Ends(sight);
        books = new Books();
        holding = NONE;
    }

    public int feed(int a, int b, int c, int d, int e) {
        int more = Tape.fullBytes(a) + Tape.fullBytes(b) + Tape.fullBytes(c) + Tape.fullBytes(d) + Tape.fullBytes(e);
        if (tape.length + more > Tape.MOST) {
            return NONE;
        }
        tape.append(a);
        tape.append(b);
        tape.append(c);
        tape.append(d);
        tape.append(e);
        return tape.length;
    }

    public boolean end(int n) {
        if (n < 0 || n > tape.length) {
            return false;
        }
        tape.length = n;
        return true;
    }

    // The place behind the last LAW (GAME) is always free to be read into: what is read there counts only once told.
    public int fault(int sort) {
        switch (sort) {
            case 0:
                spare.read(tape);
                return tape.wrongAt;
            case 1:
                lawShelf[lawCount].read(tape);
                return tape.wrongAt;
            case 2:
                gameShelf[gameCount].read(tape);
                return tape.wrongAt;
            default:
                return -2;
        }
    }

    public int text(int sort) {
        if (sort == 0) {
            return tellLawn();
        }
        if (sort == 1 && lawCount < MOST_TEXTS && lawShelf[lawCount].read(tape)) {
            tape.length = 0;
            lawCount++;
            return lawCount - 1;
        }
        if (sort == 2 && gameCount < MOST_TEXTS && gameShelf[gameCount].read(tape)) {
            tape.length = 0;
            gameCount++;
            return gameCount - 1;
        }
        return NONE;
    }

    private int tellLawn() {
        if (!spare.read(tape)) {
            return NONE;
        }
        Ground old = ground;
        ground = spare;
        spare = old;
        tape.length = 0;
        now.begin(ground.tufts, ground.rules[Ground.FIRST]);
        history.clear();
        books.clear();
        ends.forget();
        lookByLaw();
        return ground.cells;
    }

    private void lookByLaw() {
        boolean there = holding >= 0 && holding < lawCount;
        sight.face(ground, there ? lawShelf[holding] : null);
    }

    private boolean noLawn() {
        return ground.cells == 0;
    }

    private boolean isCell(int cell) {
        return cell >= 0 && cell < ground.cells;
    }

    private boolean isGame(int game) {
        return game >= 0 && game < gameCount;
    }

    public int rule(int what) {
        if (noLawn() || what < 0 || what >= Ground.FIRST) {
            return NONE;
        }
        return ground.rules[what];
    }

    public int cell(int cell, int what) throws NoSuchElementException {
        if (!isCell(cell) || what < 0 || what > 2) {
            throw new NoSuchElementException();
        }
        if (what == 0) {
            return kindOf(1 << cell);
        }
        if (what == 1) {
            return ground.around(cell, now.tufts);
        }
        return sight.grows(cell, now.tufts, now.earth, now.day) ? 1 : 0;
    }

    private int kindOf(int bit) {
        if ((now.tufts & bit) != 0) {
            return 1;
        }
        if ((ground.beds & bit) != 0) {
            return 2;
        }
        return (now.earth & bit) != 0 ? 3 : 0;
    }

    public boolean law(int law) {
        if (law < NONE || law >= lawCount) {
            return false;
        }
        holding = law;
        lookByLaw();
        return true;
    }

    public boolean drought(int v) {
        if (v < 0 || v > 99 || v == dryness) {
            return false;
        }
        dryness = v;
        return true;
    }

    public int grow(int cell) {
        if (!act(GROWN, cell, 0, 0)) {
            return NONE;
        }
        return now.won ? 1 : 0;
    }

    public int cut(int cell, int way, int n) {
        return act(CUT, cell, way, n) ? now.day : NONE;
    }

    public int sit() {
        boolean lawn = now.turn == NIGHT;
        if (!act(SAT, NONE, 0, 0)) {
            return NONE;
        }
        return lawn ? now.lawnThistles : now.houseThistles;
    }

    public int mole(int cell) {
        return act(MOLE, cell, 0, 0) ? Integer.bitCount(now.tufts) : NONE;
    }

    /** One ACT: kept for UNDO and LOG. False: it can't be. */
    private boolean act(int what, int cell, int way, int many) {
        if (!play.allows(now, what, cell, way, many)) {
            return false;
        }
        boolean threat = what == GROWN && sight.threatened(now.tufts, now.earth, now.day);
        history.keep(now, Game.packed(what, cell, many == 1 ? RIGHT : way, many));
        play.apply(now, what, cell, way, many);
        if (threat && !now.won) {
            now.meant++;
        }
        return true;
    }

    public int games(int n, long seed) {
        if (noLawn() || now.won || n < 1 || n > 30) {
            return NONE;
        }
        drawn = seed;
        for (int night = 0; night < n && !now.won; night++) {
            playNight();
        }
        return now.day;
    }

    private void playNight() {
        if (now.turn == DAY) {
            act(SAT, NONE, 0, 0);
        }
        boolean dry = draw(100) < dryness;
        int may = sight.growing(now.tufts, now.earth, now.day);
        if (dry || may == 0) {
            act(SAT, NONE, 0, 0);
        } else {
            act(GROWN, nthCell(may, draw(Integer.bitCount(may))), 0, 0);
        }
        if (now.won) {
            return;
        }
        if (ahead.advise(now)) {
            int code = ahead.bestCode;
            act(CUT, code / 100, code / 10 % 10, code % 10);
        } else {
            act(SAT, NONE, 0, 0);
        }
    }

    private int draw(int below) {
        drawn = drawn * 6364136223846793005L + 1442695040888963407L;
        return below < 1 ? 0 : (int) ((drawn >>> 33) % below);
    }

    private static int nthCell(int bits, int n) {
        int left = n;
        for (int cell = 0; cell < MOST_CELLS; cell++) {
            if ((bits >> cell & 1) != 0) {
                if (left == 0) {
                    return cell;
                }
                left--;
            }
        }
        return NONE;
    }

    public int undo() {
        return history.takeBack(now) ? history.undoable : NONE;
    }

    public int log(int i, int what) {
        if (i < 0 || i >= history.shown() || what < 0 || what > 3) {
            return HIDDEN;
        }
        return Game.unpacked(history.deed(i), what);
    }

    public int move(int game, int i, int what) {
        if (!isGame(game) || i < 0 || i >= gameShelf[game].count || what < 0 || what > 3) {
            return HIDDEN;
        }
        return Game.unpacked(gameShelf[game].moves[i], what);
    }

    public int run(int game) {
        if (!isGame(game) || noLawn()) {
            return HIDDEN;
        }
        int many = play.runApart(gameShelf[game], now);
        return many == gameShelf[game].count ? NONE : many;
    }

    public int perform(int game) {
        if (!isGame(game) || noLawn()) {
            return NONE;
        }
        Game told = gameShelf[game];
        for (int i = 0; i < told.count; i++) {
            int move = told.moves[i];
            int cell = play.cellOf(now, move);
            if (!act(Game.unpacked(move, 0), cell, Game.unpacked(move, 2), Game.unpacked(move, 3))) {
                return i;
            }
        }
        return told.count;
    }

    public int missing(int game, int tufts, int i) {
        if (!isGame(game) || noLawn() || gameShelf[game].leaves > Play.MOST_LEAVES) {
            return NONE;
        }
        if ((tufts & ~ground.all) != 0 || i < NONE) {
            return NONE;
        }
        play.fillLeaves(gameShelf[game], now, tufts, i);
        return i == NONE ? play.found : play.foundCode;
    }

    public int threats() {
        return noLawn() ? NONE : sight.threatBits(now.tufts, now.earth, now.day);
    }

    public int cuts(int i) {
        if (noLawn()) {
            return NONE;
        }
        sight.listCuts(now.tufts);
        if (i < 0 || i >= sight.listed) {
            return i == NONE ? sight.listed : NONE;
        }
        return sight.codes[i];
    }

    public int answers(int i) {
        return noLawn() || i < NONE ? NONE : ahead.answer(now, i);
    }

    public int advice(int what) {
        if (noLawn() || what < 0 || what > 1 || !ahead.advise(now)) {
            return NONE;
        }
        return what == 0 ? ahead.bestCode : ahead.bestThreats;
    }

    private boolean openNight() {
        return !noLawn() && !now.won && now.turn == NIGHT;
    }

    public int holds(int n) {
        if (!openNight() || n < 1 || n > 2) {
            return NONE;
        }
        if (sight.threatened(now.tufts, now.earth, now.day)) {
            return 0;
        }
        boolean held = n == 1 || ahead.canHold(now.tufts, now.earth, now.day) && ahead.forcing(now) == NONE;
        return held ? 1 : 0;
    }

    public int forced() {
        return openNight() ? ahead.forcing(now) : NONE;
    }

    public int meant() {
        return noLawn() ? NONE : now.meant;
    }

    public int parts(int i) {
        if (noLawn()) {
            return NONE;
        }
        ends.findParts(now.tufts);
        if (i < 0 || i >= ends.partCount) {
            return i == NONE ? ends.partCount : NONE;
        }
        return ends.parts[i];
    }

    public int sumOf(int i) {
        if (noLawn()) {
            return HIDDEN;
        }
        ends.findParts(now.tufts);
        if (i < 0 || i >= ends.partCount || !ends.isSmall(i)) {
            return HIDDEN;
        }
        ends.sumUp();
        return ends.sumLeft(i, ends.parts[i]);
    }

    public int winning() {
        if (noLawn()) {
            return NONE;
        }
        ends.findParts(now.tufts);
        if (!ends.allSmall()) {
            return HIDDEN;
        }
        ends.sumUp();
        return ends.winningCode();
    }

    public int fewest() {
        if (noLawn()) {
            return NONE;
        }
        ends.findParts(now.tufts);
        return ends.allSmall() ? ends.fewestCuts() : HIDDEN;
    }

    public int book(int cell, boolean may) {
        if (!isCell(cell) || kindOf(1 << cell) != 0) {
            return NONE;
        }
        return books.add(ground.around(cell, now.tufts), may);
    }

    public int fit(int i) {
        return noLawn() || i < NONE ? NONE : books.fitting(i);
    }

    public int tells() {
        int best = NONE;
        int leastApart = 0;
        for (int cell = 0; cell < ground.cells; cell++) {
            if (kindOf(1 << cell) == 0) {
                int apart = books.apart(ground.around(cell, now.tufts));
                if (best == NONE || apart < leastApart) {
                    best = cell;
                    leastApart = apart;
                }
            }
        }
        return best;
    }

    public int alike(int what) {
        if (noLawn() || what < 0 || what > 1) {
            return NONE;
        }
        int same = 0;
        int least = now.tufts;
        for (int mirror = 0; mirror < ground.mirrors(); mirror++) {
            int moved = ground.mirroredBits(now.tufts, mirror);
            if (moved == now.tufts) {
                same++;
            }
            least = Math.min(least, moved);
        }
        return what == 0 ? same : least;
    }

    // A CELL is not counted if a mirror that changes nothing takes it to a lower one that MAY GROW.
    public int openings() {
        if (noLawn()) {
            return NONE;
        }
        int may = sight.growing(now.tufts, now.earth, now.day);
        int counted = may;
        for (int mirror = 0; mirror < ground.mirrors(); mirror++) {
            if (leavesAll(mirror)) {
                counted &= ~ground.mirroredLower(may, mirror);
            }
        }
        return Integer.bitCount(counted);
    }

    private boolean leavesAll(int mirror) {
        return ground.mirroredBits(now.tufts, mirror) == now.tufts
            && ground.mirroredBits(ground.beds, mirror) == ground.beds
            && ground.mirroredBits(now.earth, mirror) == now.earth;
    }

    public int odds(int n, int chance) {
        if (noLawn() || n < 0 || n > 3 || chance < 0 || chance > 100) {
            return NONE;
        }
        return now.won ? ALL_PARTS : (int) ahead.oddsOf(now, n, chance);
    }

    public int where(int what) {
        if (noLawn() || what < 0 || what > 1 || !ahead.placeMole(now)) {
            return NONE;
        }
        return what == 0 ? ahead.bestCode : ahead.bestThreats;
    }

    public int room() {
        return noLawn() ? NONE : Integer.bitCount(sight.growing(now.tufts, now.earth, now.day));
    }

    public int longest() {
        return noLawn() ? NONE : ground.longestRow(now.tufts);
    }

    public int image() {
        if (noLawn()) {
            return NONE;
        }
        history.takeImage(now);
        return now.day;
    }

    public int back() {
        return history.bringBack(now) ? now.day : NONE;
    }

    public int count(int what) {
        switch (what) {
            case 0: return ground.cells;
            case 1: return Integer.bitCount(now.tufts);
            case 2: return lawCount;
            case 3: return gameCount;
            case 4: return tape.length;
            case 5: return holding;
            case 6: return now.day;
            case 7: return now.turn;
            case 8: return now.won ? 1 : 0;
            case 9: return now.lawnThistles;
            case 10: return now.houseThistles;
            case 11: return dryness;
            case 12: return books.count;
            case 13: return history.shown();
            case 14: return history.undoable;
            case 15: return now.tufts;
            default: return HIDDEN;
        }
    }

    /** The bytes told so far, and a cursor that never stands on a blank. */
    private static final class Tape {
        static final int MOST = 240;
        static final int END = 0;
        final int[] bytes = new int[MOST];
        int length;
        int at;
        int wrongAt;

        static int fullBytes(int number) {
            int full = 0;
            for (int shift = 24; shift >= 0; shift -= 8) {
                if ((number >>> shift & 255) != 0) {
                    full++;
                }
            }
            return full;
        }

        void append(int number) {
            for (int shift = 24; shift >= 0; shift -= 8) {
                int one = number >>> shift & 255;
                if (one != 0 && length < MOST) {
                    bytes[length] = one;
                    length++;
                }
            }
        }

        void rewind() {
            wrongAt = NONE;
            at = 0;
            while (at < length && bytes[at] == ' ') {
                at++;
            }
        }

        int sign() {
            return at < length ? bytes[at] : END;
        }

        void step() {
            at++;
            while (at < length && bytes[at] == ' ') {
                at++;
            }
            at = Math.min(at, length);
        }

        boolean wrong() {
            wrongAt = at;
            return false;
        }

        boolean wrongAsWhole() {
            wrongAt = length;
            return false;
        }

        boolean demand(int sign) {
            if (sign() != sign) {
                return wrong();
            }
            step();
            return true;
        }

        boolean ended() {
            return sign() == END || wrong();
        }

        /** A number of some digits at most within bounds; NONE: a FAULT. */
        int number(int digits, int low, int high) {
            int value = 0;
            int read = 0;
            while (at < length && bytes[at] >= '0' && bytes[at] <= '9') {
                if (read == digits) {
                    wrongAt = at;
                    return NONE;
                }
                value = value * 10 + bytes[at] - '0';
                read++;
                at++;
            }
            if (read == 0 || value < low || value > high) {
                wrongAt = read == 0 ? at : at - 1;
                return NONE;
            }
            while (at < length && bytes[at] == ' ') {
                at++;
            }
            return value;
        }
    }

    /** A LAWN as it was told, and how its CELLS lie. */
    private static final class Ground {
        static final int WIDTH = 0;
        static final int HEIGHT = 1;
        static final int LINE = 2;
        static final int SHEARS = 3;
        static final int LOW = 4;
        static final int HIGH = 5;
        static final int FIRST = 6;
        static final int RULES = 7;
        static final int WAYS = 4;
        private static final int MOST_TUFTS = 12;
        private static final int MOST_BEDS = 8;
        private static final String LETTERS = "whqklux";
        private static final int[] LEAST = {1, 1, 2, 1, 0, 0, 0};
        private static final int[] MOST = {6, 5, 5, 5, 8, 8, 1};
        private static final int[] USUAL = {5, 4, 3, 2, 0, 8, 0};

        final int[] rules = new int[RULES];
        final int[] near = new int[MOST_CELLS];
        // Of each way of a LINE: how far on the next CELL is, and which CELLS have one there.
        final int[] strides = new int[WAYS];
        final int[] open = new int[WAYS];
        private final int[] lineStarts = new int[WAYS];
        int cells;
        int all;
        int width;
        int height;
        int tufts;
        int beds;
        private boolean ruled;
        private boolean doubled;
        private int tuftCount;
        private int bedCount;

        boolean read(Tape tape) {
            tape.rewind();
            clear();
            for (int i = 0; i < Tape.MOST; i++) {
                if (!readClause(tape)) {
                    return false;
                }
                if (tape.sign() != ';') {
                    break;
                }
                tape.step();
            }
            return tape.ended() && (isWhole() || tape.wrongAsWhole());
        }

        private void clear() {
            System.arraycopy(USUAL, 0, rules, 0, RULES);
            tufts = 0;
            beds = 0;
            ruled = false;
            doubled = false;
            tuftCount = 0;
            bedCount = 0;
        }

        private boolean readClause(Tape tape) {
            int kind = tape.sign();
            if (!mayCome(kind)) {
                return tape.wrong();
            }
            tape.step();
            return kind == 's' ? readRules(tape) : readSpot(tape, kind == 't');
        }

        private boolean mayCome(int kind) {
            return kind == 's' && !ruled
                || kind == 't' && tuftCount < MOST_TUFTS
                || kind == 'b' && bedCount < MOST_BEDS;
        }

        private boolean readRules(Tape tape) {
            ruled = true;
            int seen = 0;
            for (int i = 0; i <= RULES; i++) {
                int which = LETTERS.indexOf((char) tape.sign());
                if (which < 0 || which >= RULES) {
                    return true;
                }
                if ((seen >> which & 1) != 0) {
                    return tape.wrong();
                }
                seen |= 1 << which;
                tape.step();
                int value = tape.number(2, LEAST[which], MOST[which]);
                if (value == NONE) {
                    return false;
                }
                rules[which] = value;
            }
            return true;
        }

        private boolean readSpot(Tape tape, boolean tuft) {
            int cell = 0;
            if (tape.sign() == 'c') {
                tape.step();
                cell = tape.number(2, 0, MOST_CELLS - 1);
                if (cell == NONE) {
                    return false;
                }
            }
            int bit = 1 << cell;
            doubled |= ((tufts | beds) & bit) != 0;
            if (tuft) {
                tufts |= bit;
                tuftCount++;
            } else {
                beds |= bit;
                bedCount++;
            }
            return true;
        }

        private boolean isWhole() {
            width = rules[WIDTH];
            height = rules[HEIGHT];
            cells = width * height;
            all = (1 << cells) - 1;
            if (doubled || ((tufts | beds) & ~all) != 0 || rules[LOW] > rules[HIGH]) {
                return false;
            }
            layOut();
            return !hasLine(tufts);
        }

        private void layOut() {
            int notLast = 0;
            int notFirst = 0;
            for (int cell = 0; cell < cells; cell++) {
                if (column(cell) < width - 1) {
                    notLast |= 1 << cell;
                }
                if (column(cell) > 0) {
                    notFirst |= 1 << cell;
                }
            }
            setWay(0, 1, notLast);
            setWay(1, width, all);
            setWay(2, width + 1, notLast);
            setWay(3, width - 1, notFirst);
            for (int cell = 0; cell < cells; cell++) {
                near[cell] = besideAnyWay(1 << cell);
            }
        }

        private void setWay(int way, int stride, int from) {
            strides[way] = stride;
            open[way] = from;
            int starts = all;
            for (int i = 1; i < rules[LINE]; i++) {
                starts = from & starts >>> stride;
            }
            lineStarts[way] = starts;
        }

        private int besideAnyWay(int bits) {
            int found = 0;
            for (int way = 0; way < WAYS; way++) {
                found |= (bits & open[way]) << strides[way] | bits >>> strides[way] & open[way];
            }
            return found & all;
        }

        /** The CELLS beside these, to the right and left, up and down. */
        int beside(int bits) {
            int across = (bits & open[0]) << 1 | bits >>> 1 & open[0];
            return (across | bits << width | bits >>> width) & all;
        }

        int row(int cell) {
            return width < 1 ? 0 : cell / width;
        }

        int column(int cell) {
            return width < 1 ? 0 : cell % width;
        }

        int around(int cell, int bits) {
            return cell < 0 || cell >= cells ? 0 : Integer.bitCount(near[cell] & bits);
        }

        boolean hasLine(int bits) {
            for (int way = 0; way < WAYS; way++) {
                if (startsBut(NONE, way, bits) != 0) {
                    return true;
                }
            }
            return false;
        }

        /** CELLS where a LINE that way begins whose CELLS, but for the one at the gap, are all among these. */
        private int startsBut(int gap, int way, int bits) {
            int starts = lineStarts[way];
            for (int i = 0; i < rules[LINE] && starts != 0; i++) {
                if (i != gap) {
                    starts &= bits >>> i * strides[way];
                }
            }
            return starts;
        }

        /** CELLS by which, with these, there is a LINE: all of them if there is one already. */
        int winners(int bits) {
            if (hasLine(bits)) {
                return all;
            }
            int found = 0;
            for (int way = 0; way < WAYS; way++) {
                for (int gap = 0; gap < rules[LINE]; gap++) {
                    found |= startsBut(gap, way, bits) << gap * strides[way];
                }
            }
            return found;
        }

        int longestRow(int bits) {
            int most = 0;
            for (int way = 0; way < WAYS; way++) {
                int starts = bits;
                for (int many = 1; many <= MOST_CELLS && starts != 0; many++) {
                    most = Math.max(most, many);
                    starts = bits & open[way] & starts >>> strides[way];
                }
            }
            return most;
        }

        /** The CELLS that a CUT takes; 0: it does not lie on the LAWN, or is not one. */
        int cutBits(int cell, int way, int many) {
            if (cell < 0 || cell >= cells || many < 1 || many > rules[SHEARS]) {
                return 0;
            }
            if (way == RIGHT) {
                return column(cell) + many > width ? 0 : (1 << many) - 1 << cell;
            }
            if (way != DOWN || row(cell) + many > height) {
                return 0;
            }
            int bits = 0;
            for (int i = 0; i < many; i++) {
                bits |= 1 << cell + i * width;
            }
            return bits;
        }

        boolean canCut(int bits, int cell, int way, int many) {
            int wanted = cutBits(cell, way, many);
            return wanted != 0 && (bits & wanted) == wanted;
        }

        int mirrors() {
            return width == height ? 8 : 4;
        }

        private int mirroredCell(int cell, int mirror) {
            int down = (mirror & 1) == 0 ? row(cell) : height - 1 - row(cell);
            int across = (mirror & 2) == 0 ? column(cell) : width - 1 - column(cell);
            return (mirror & 4) == 0 ? down * width + across : across * width + down;
        }

        int mirroredBits(int bits, int mirror) {
            int moved = 0;
            for (int cell = 0; cell < cells; cell++) {
                if ((bits >> cell & 1) != 0) {
                    moved |= 1 << mirroredCell(cell, mirror);
                }
            }
            return moved;
        }

        /** Those of the CELLS that a mirror takes to a lower one of them. */
        int mirroredLower(int bits, int mirror) {
            int lower = 0;
            for (int cell = 0; cell < cells; cell++) {
                int moved = mirroredCell(cell, mirror);
                if ((bits >> cell & 1) != 0 && (bits >> moved & 1) != 0 && moved < cell) {
                    lower |= 1 << cell;
                }
            }
            return lower;
        }
    }

    /** A LAW, its signs put behind what they join, so that it is looked through once for a WORTH. */
    private static final class Law {
        private static final String LETTERS = "trcbdo";
        static final int LETTER_COUNT = 6;
        private static final int DAY_LETTER = 4;
        private static final int MOST_DEPTH = 6;
        private static final int MOST_CLAUSES = 64;
        private static final int BOUND = 1000000;
        // Numbers stand for themselves, -1 .. -6 for the letters, these for what is done.
        private static final int PLUS = -10;
        private static final int MINUS = -11;
        private static final int TIMES = -12;
        private static final int BY = -13;
        private static final int SAME = -14;
        private static final int LESS = -15;
        private static final int MORE = -16;
        private static final int AND = -17;
        private static final int OR = -18;
        private static final int NOT = -19;

        private final int[] code = new int[Tape.MOST];
        private final int[] stack = new int[32];
        // Of each CLAUSE: where its CONDITION and its SUM begin; it ends where the next begins.
        private final int[] conditions = new int[MOST_CLAUSES + 1];
        private final int[] sums = new int[MOST_CLAUSES];
        private int size;
        private int clauses;
        boolean usesDay;

        boolean read(Tape tape) {
            tape.rewind();
            size = 0;
            usesDay = false;
            clauses = 0;
            for (int i = 0; i < MOST_CLAUSES; i++) {
                conditions[i] = size;
                if (!readClause(tape, i)) {
                    return false;
                }
                clauses = i + 1;
                if (tape.sign() != ';') {
                    break;
                }
                tape.step();
            }
            conditions[clauses] = size;
            return tape.ended();
        }

        private boolean readClause(Tape tape, int clause) {
            if (!tape.demand('y') || !tape.demand(':')) {
                return false;
            }
            sums[clause] = size;
            boolean begun = false;
            if (tape.sign() != '!' && tape.sign() != '(') {
                if (!readSum(tape, 0)) {
                    return false;
                }
                if (comparison(tape.sign()) == 0) {
                    return true;
                }
                if (!readComparison(tape, 0)) {
                    return false;
                }
                begun = true;
            }
            if (!readCondition(tape, 0, begun) || !tape.demand('?')) {
                return false;
            }
            sums[clause] = size;
            return readSum(tape, 0);
        }

        private boolean readCondition(Tape tape, int depth, boolean begun) {
            if (!begun && !readUnit(tape, depth)) {
                return false;
            }
            boolean either = false;
            for (int i = 0; i < Tape.MOST; i++) {
                int sign = tape.sign();
                if (sign != '&' && either) {
                    put(OR);
                }
                if (sign != '&' && sign != '|') {
                    return true;
                }
                tape.step();
                if (!readUnit(tape, depth)) {
                    return false;
                }
                if (sign == '&') {
                    put(AND);
                } else {
                    either = true;
                }
            }
            return tape.wrong();
        }

        private boolean readUnit(Tape tape, int depth) {
            int sign = tape.sign();
            if (sign != '!' && sign != '(') {
                return readSum(tape, depth) && readComparison(tape, depth);
            }
            if (depth >= MOST_DEPTH) {
                return tape.wrong();
            }
            tape.step();
            if (sign == '(') {
                return readCondition(tape, depth + 1, false) && tape.demand(')');
            }
            if (!readUnit(tape, depth + 1)) {
                return false;
            }
            put(NOT);
            return true;
        }

        private static int comparison(int sign) {
            return sign == '=' ? SAME : sign == '<' ? LESS : sign == '>' ? MORE : 0;
        }

        private boolean readComparison(Tape tape, int depth) {
            int compared = comparison(tape.sign());
            if (compared == 0) {
                return tape.wrong();
            }
            tape.step();
            if (!readSum(tape, depth)) {
                return false;
            }
            put(compared);
            return true;
        }

        private boolean readSum(Tape tape, int depth) {
            if (!readAtom(tape, depth)) {
                return false;
            }
            int waiting = 0;
            for (int i = 0; i < Tape.MOST; i++) {
                int sign = tape.sign();
                boolean tight = sign == '*' || sign == '/';
                if (!tight && waiting != 0) {
                    put(waiting);
                }
                if (!tight && sign != '+' && sign != '-') {
                    return true;
                }
                tape.step();
                if (!readAtom(tape, depth)) {
                    return false;
                }
                if (tight) {
                    put(sign == '*' ? TIMES : BY);
                } else {
                    waiting = sign == '+' ? PLUS : MINUS;
                }
            }
            return tape.wrong();
        }

        private boolean readAtom(Tape tape, int depth) {
            int sign = tape.sign();
            if (sign == '[') {
                if (depth >= MOST_DEPTH) {
                    return tape.wrong();
                }
                tape.step();
                if (!readSum(tape, depth + 1)) {
                    return false;
                }
                if (tape.sign() != ']') {
                    return tape.wrong();
                }
                tape.step();
                return true;
            }
            int letter = LETTERS.indexOf((char) sign);
            if (letter >= 0) {
                usesDay |= letter == DAY_LETTER;
                put(-1 - letter);
                tape.step();
                return true;
            }
            int value = tape.number(4, 0, 9999);
            put(Math.max(value, 0));
            return value != NONE;
        }

        private void put(int sign) {
            if (size < code.length) {
                code[size] = sign;
                size++;
            }
        }

        int worth(int[] letters) {
            for (int i = 0; i < clauses; i++) {
                boolean free = conditions[i] == sums[i];
                if (free || reckon(conditions[i], sums[i], letters) != 0) {
                    return reckon(sums[i], conditions[i + 1], letters);
                }
            }
            return 0;
        }

        private int reckon(int from, int to, int[] letters) {
            int top = 0;
            for (int i = from; i < to; i++) {
                int sign = code[i];
                if (sign >= -LETTER_COUNT) {
                    if (top >= stack.length) {
                        return 0;
                    }
                    stack[top] = sign >= 0 ? sign : letters[-1 - sign];
                    top++;
                } else if (sign == NOT && top > 0) {
                    stack[top - 1] = 1 - stack[top - 1];
                } else if (top > 1) {
                    top--;
                    stack[top - 1] = joined(sign, stack[top - 1], stack[top]);
                }
            }
            return top > 0 ? stack[0] : 0;
        }

        private static int joined(int sign, long a, long b) {
            long value;
            switch (sign) {
                case PLUS: value = a + b; break;
                case MINUS: value = a - b; break;
                case TIMES: value = a * b; break;
                case BY: value = b == 0 ? 0 : a / b; break;
                case SAME: return a == b ? 1 : 0;
                case LESS: return a < b ? 1 : 0;
                case MORE: return a > b ? 1 : 0;
                case AND: return a != 0 && b != 0 ? 1 : 0;
                default: return a != 0 || b != 0 ? 1 : 0;
            }
            return value > BOUND ? BOUND : value < -BOUND ? -BOUND : (int) value;
        }
    }

    /** A GAME: its MOVES, each as one number, as in the LOG. */
    private static final class Game {
        static final int MOST_MOVES = 16;
        final int[] moves = new int[MOST_MOVES];
        int count;
        int leaves;

        static int packed(int what, int cell, int way, int many) {
            return ((what * (MOST_CELLS + 1) + cell + 1) * 2 + way) * 6 + many;
        }

        static int unpacked(int move, int what) {
            switch (what) {
                case 0: return move / 12 / (MOST_CELLS + 1);
                case 1: return move / 12 % (MOST_CELLS + 1) - 1;
                case 2: return move / 6 % 2;
                default: return move % 6;
            }
        }

        boolean read(Tape tape) {
            tape.rewind();
            leaves = 0;
            count = 0;
            for (int i = 0; i < MOST_MOVES; i++) {
                int move = readMove(tape);
                if (move == NONE) {
                    return false;
                }
                moves[i] = move;
                count = i + 1;
                if (tape.sign() != ';' || count == MOST_MOVES) {
                    break;
                }
                tape.step();
            }
            return tape.ended();
        }

        /** A MOVE as one number; NONE: a FAULT. */
        private int readMove(Tape tape) {
            int sign = tape.sign();
            if (sign != 'g' && sign != 'c' && sign != 'm' && sign != 'x') {
                tape.wrong();
                return NONE;
            }
            tape.step();
            if (sign == 'x') {
                return packed(SAT, NONE, 0, 0);
            }
            if (sign == 'g' && tape.sign() == '?') {
                tape.step();
                leaves++;
                return packed(GROWN, NONE, 0, 0);
            }
            int cell = tape.number(2, 0, MOST_CELLS - 1);
            if (cell == NONE) {
                return NONE;
            }
            if (sign == 'c') {
                return readCut(tape, cell);
            }
            return packed(sign == 'g' ? GROWN : MOLE, cell, 0, 0);
        }

        private static int readCut(Tape tape, int cell) {
            int way = tape.sign();
            if (way != 'r' && way != 'd') {
                tape.wrong();
                return NONE;
            }
            tape.step();
            int many = tape.sign() - '0';
            if (many < 1 || many > 5) {
                tape.wrong();
                return NONE;
            }
            tape.step();
            return packed(CUT, cell, way == 'd' ? DOWN : RIGHT, many);
        }
    }

    /** What an ACT can change. */
    private static final class State {
        int tufts;
        int earth;
        int turn;
        int day;
        int lawnThistles;
        int houseThistles;
        int meant;
        boolean won;

        void begin(int toldTufts, int first) {
            tufts = toldTufts;
            earth = 0;
            turn = first;
            day = 0;
            lawnThistles = 0;
            houseThistles = 0;
            meant = 0;
            won = false;
        }

        void takeFrom(State other) {
            tufts = other.tufts;
            earth = other.earth;
            turn = other.turn;
            day = other.day;
            lawnThistles = other.lawnThistles;
            houseThistles = other.houseThistles;
            meant = other.meant;
            won = other.won;
        }
    }

    /** ACTS that can be UNDONE, the LOG and the IMAGE, in rows that go round. */
    private static final class History {
        private static final int SHOWN = 60;
        private static final int UNDOABLE = 40;
        // More than the LOG shows: those that come to light again when later ones are UNDONE.
        private static final int KEPT = SHOWN + UNDOABLE;

        private final State[] states = new State[UNDOABLE];
        private final int[] deeds = new int[KEPT];
        private final State imageState = new State();
        private final int[] imageDeeds = new int[KEPT];
        int undoable;
        private int nextState;
        private int kept;
        private int nextDeed;
        private boolean hasImage;
        private int imageKept;
        private int imageNextDeed;

        History() {
            for (int i = 0; i < UNDOABLE; i++) {
                states[i] = new State();
            }
        }

        void clear() {
            undoable = 0;
            kept = 0;
            hasImage = false;
        }

        int shown() {
            return Math.min(kept, SHOWN);
        }

        void keep(State before, int deed) {
            states[nextState].takeFrom(before);
            nextState = (nextState + 1) % UNDOABLE;
            undoable = Math.min(undoable + 1, UNDOABLE);
            deeds[nextDeed] = deed;
            nextDeed = (nextDeed + 1) % KEPT;
            kept = Math.min(kept + 1, KEPT);
        }

        boolean takeBack(State state) {
            if (undoable < 1) {
                return false;
            }
            nextState = (nextState + UNDOABLE - 1) % UNDOABLE;
            state.takeFrom(states[nextState]);
            undoable--;
            nextDeed = (nextDeed + KEPT - 1) % KEPT;
            kept--;
            return true;
        }

        int deed(int i) {
            return i < 0 || i >= KEPT ? 0 : deeds[(nextDeed + KEPT - 1 - i) % KEPT];
        }

        void takeImage(State state) {
            imageState.takeFrom(state);
            System.arraycopy(deeds, 0, imageDeeds, 0, KEPT);
            imageKept = kept;
            imageNextDeed = nextDeed;
            hasImage = true;
        }

        boolean bringBack(State state) {
            if (!hasImage) {
                return false;
            }
            state.takeFrom(imageState);
            System.arraycopy(imageDeeds, 0, deeds, 0, KEPT);
            kept = imageKept;
            nextDeed = imageNextDeed;
            undoable = 0;
            return true;
        }
    }

    /** What MAY GROW, what is a THREAT, and which CUTS there are. */
    private static final class Sight {
        static final int MOST_CUTS = 270;
        private static final int MOST_AROUND = 8;
        private static final int SLOTS = (MOST_AROUND + 1) * (MOST_CELLS + 1);
        // ODDS go to and fro between the DAYS of three NIGHTS.
        private static final int PAGES = 4;

        Ground ground;
        private Law law;
        private final int[] pageDays = new int[PAGES];
        // By the DAY, TUFTS AROUND and how many there are: CELLS whose WORTH was reckoned, and those where it is above 0.
        private final int[] reckoned = new int[PAGES * SLOTS];
        private final int[] worthy = new int[PAGES * SLOTS];
        private final int[] letters = new int[Law.LETTER_COUNT];
        final int[] codes = new int[MOST_CUTS];
        final int[] taken = new int[MOST_CUTS];
        int listed;

        Sight(Ground first) {
            ground = first;
        }

        void face(Ground told, Law held) {
            ground = told;
            law = held;
            Arrays.fill(pageDays, 0);
            Arrays.fill(reckoned, 0);
            Arrays.fill(worthy, 0);
        }

        private void turnTo(int page, int day) {
            pageDays[page] = day;
            int end = (page + 1) * SLOTS;
            for (int slot = page * SLOTS; slot < end; slot++) {
                reckoned[slot] = 0;
                worthy[slot] = 0;
            }
        }

        boolean grows(int cell, int tufts, int earth, int day) {
            if (cell < 0 || cell >= ground.cells || ((tufts | earth | ground.beds) >> cell & 1) != 0) {
                return false;
            }
            int around = Integer.bitCount(ground.near[cell] & tufts);
            if (law == null) {
                return around >= ground.rules[Ground.LOW] && around <= ground.rules[Ground.HIGH];
            }
            int page = law.usesDay ? day & PAGES - 1 : 0;
            if (law.usesDay && day != pageDays[page]) {
                turnTo(page, day);
            }
            int many = Integer.bitCount(tufts);
            int slot = page * SLOTS + around * (MOST_CELLS + 1) + many;
            if (slot >= reckoned.length) {
                return false;
            }
            int bit = 1 << cell;
            if ((reckoned[slot] & bit) == 0) {
                reckoned[slot] |= bit;
                setLetters(cell, around, day, many);
                if (law.worth(letters) > 0) {
                    worthy[slot] |= bit;
                }
            }
            return (worthy[slot] & bit) != 0;
        }

        private void setLetters(int cell, int around, int day, int many) {
            letters[0] = around;
            letters[1] = ground.row(cell);
            letters[2] = ground.column(cell);
            letters[3] = ground.around(cell, ground.beds);
            letters[4] = day;
            letters[5] = many;
        }

        int growing(int tufts, int earth, int day) {
            int may = 0;
            for (int cell = 0; cell < ground.cells; cell++) {
                if (grows(cell, tufts, earth, day)) {
                    may |= 1 << cell;
                }
            }
            return may;
        }

        int lowest(int tufts, int earth, int day) {
            for (int cell = 0; cell < ground.cells; cell++) {
                if (grows(cell, tufts, earth, day)) {
                    return cell;
                }
            }
            return NONE;
        }

        int threatBits(int tufts, int earth, int day) {
            int threats = 0;
            int winners = ground.winners(tufts);
            for (int cell = 0; cell < ground.cells; cell++) {
                if ((winners >> cell & 1) != 0 && grows(cell, tufts, earth, day)) {
                    threats |= 1 << cell;
                }
            }
            return threats;
        }

        boolean threatened(int tufts, int earth, int day) {
            int winners = ground.winners(tufts);
            for (int cell = 0; cell < ground.cells && winners >> cell != 0; cell++) {
                if ((winners >> cell & 1) != 0 && grows(cell, tufts, earth, day)) {
                    return true;
                }
            }
            return false;
        }

        /** All CUTS, their codes rising, and the CELLS that they take. */
        void listCuts(int tufts) {
            listed = 0;
            for (int cell = 0; cell < ground.cells; cell++) {
                listWay(cell, RIGHT, 1, tufts);
                listWay(cell, DOWN, 2, tufts);
            }
        }

        private void listWay(int cell, int way, int least, int tufts) {
            for (int many = least; many <= ground.rules[Ground.SHEARS]; many++) {
                int bits = ground.cutBits(cell, way, many);
                if (bits == 0 || (tufts & bits) != bits || listed >= MOST_CUTS) {
                    return;
                }
                codes[listed] = 100 * cell + 10 * way + many;
                taken[listed] = bits;
                listed++;
            }
        }
    }

    /** What can be done by turns, and what a GAME comes to. */
    private static final class Play {
        static final int MOST_LEAVES = 3;

        private final Sight sight;
        private final State[] levels = new State[MOST_LEAVES + 1];
        // Of the MOVES from each one on: the CELLS that they may take, and how many of them GROW.
        private final int[] taken = new int[Game.MOST_MOVES + 1];
        private final int[] grown = new int[Game.MOST_MOVES + 1];
        private Game game = new Game();
        private int aim;
        private int sought;
        int found;
        int foundCode;

        Play(Sight seen) {
            sight = seen;
            for (int i = 0; i <= MOST_LEAVES; i++) {
                levels[i] = new State();
            }
        }

        boolean allows(State state, int what, int cell, int way, int many) {
            Ground ground = sight.ground;
            if (ground.cells == 0 || state.won) {
                return false;
            }
            switch (what) {
                case GROWN:
                    return state.turn == NIGHT && sight.grows(cell, state.tufts, state.earth, state.day);
                case CUT:
                    return state.turn == DAY && ground.canCut(state.tufts, cell, way, many);
                case MOLE:
                    return cell >= 0 && cell < ground.cells && ((ground.beds | state.earth) >> cell & 1) == 0;
                default:
                    return true;
            }
        }

        /** Only what is allowed comes here. */
        void apply(State state, int what, int cell, int way, int many) {
            switch (what) {
                case GROWN:
                    state.tufts |= 1 << cell;
                    state.won = sight.ground.hasLine(state.tufts);
                    state.turn = DAY;
                    break;
                case CUT:
                    state.tufts &= ~sight.ground.cutBits(cell, way, many);
                    endDay(state);
                    break;
                case MOLE:
                    state.tufts &= ~(1 << cell);
                    state.earth |= 1 << cell;
                    break;
                default:
                    sitOut(state);
                    break;
            }
        }

        private static void endDay(State state) {
            state.turn = NIGHT;
            state.day++;
        }

        private static void sitOut(State state) {
            if (state.turn == NIGHT) {
                state.lawnThistles++;
                state.turn = DAY;
            } else {
                state.houseThistles++;
                endDay(state);
            }
        }

        private static boolean isLeaf(int move) {
            return Game.unpacked(move, 0) == GROWN && Game.unpacked(move, 1) == NONE;
        }

        /** The CELL of a MOVE; of a missing leaf the lowest that MAY GROW. */
        int cellOf(State state, int move) {
            return isLeaf(move) ? sight.lowest(state.tufts, state.earth, state.day) : Game.unpacked(move, 1);
        }

        private boolean step(State state, int move, int cell) {
            int what = Game.unpacked(move, 0);
            int way = Game.unpacked(move, 2);
            int many = Game.unpacked(move, 3);
            if (!allows(state, what, cell, way, many)) {
                return false;
            }
            apply(state, what, cell, way, many);
            return true;
        }

        int runApart(Game told, State from) {
            State state = levels[0];
            state.takeFrom(from);
            for (int i = 0; i < told.count; i++) {
                if (!step(state, told.moves[i], cellOf(state, told.moves[i]))) {
                    return i;
                }
            }
            return told.count;
        }

        void fillLeaves(Game told, State from, int tufts, int i) {
            game = told;
            aim = tufts;
            sought = i;
            found = 0;
            foundCode = NONE;
            levels[0].takeFrom(from);
            lookOn();
            search(0, 0, 0);
        }

        private void lookOn() {
            taken[game.count] = 0;
            grown[game.count] = 0;
            for (int i = game.count - 1; i >= 0; i--) {
                int move = game.moves[i];
                int what = Game.unpacked(move, 0);
                int cell = Game.unpacked(move, 1);
                taken[i] = taken[i + 1];
                if (what == CUT) {
                    taken[i] |= sight.ground.cutBits(cell, Game.unpacked(move, 2), Game.unpacked(move, 3));
                } else if (what == MOLE) {
                    taken[i] |= 1 << cell;
                }
                grown[i] = grown[i + 1] + (what == GROWN ? 1 : 0);
            }
        }

        /** Whether the MOVES from one on can't come to the told TUFTS, whatever is filled in. */
        private boolean isHopeless(int tufts, int from) {
            return (tufts & ~aim & ~taken[from]) != 0 || Integer.bitCount(aim & ~tufts) > grown[from];
        }

        /** Goes on from a MOVE, so many leaves being filled, till the next missing leaf. */
        private void search(int from, int leaf, int code) {
            if (leaf > MOST_LEAVES) {
                return;
            }
            State state = levels[leaf];
            if (isHopeless(state.tufts, from)) {
                return;
            }
            for (int i = from; i < game.count; i++) {
                int move = game.moves[i];
                if (isLeaf(move)) {
                    fillLeaf(i, leaf, code);
                    return;
                }
                if (!step(state, move, Game.unpacked(move, 1))) {
                    return;
                }
            }
            if (state.tufts == aim) {
                if (found == sought) {
                    foundCode = code;
                }
                found++;
            }
        }

        private void fillLeaf(int i, int leaf, int code) {
            if (leaf >= MOST_LEAVES) {
                return;
            }
            State next = levels[leaf + 1];
            for (int cell = 0; cell < sight.ground.cells; cell++) {
                if (allows(levels[leaf], GROWN, cell, 0, 0)) {
                    next.takeFrom(levels[leaf]);
                    apply(next, GROWN, cell, 0, 0);
                    search(i + 1, leaf + 1, code * MOST_CELLS + cell);
                }
            }
        }
    }

    /** What the house can do about THREATS, and what comes if it does nothing. */
    private static final class Ahead {
        private final Sight sight;
        private int earth;
        private int chance;
        int bestCode;
        int bestThreats;

        Ahead(Sight seen) {
            sight = seen;
        }

        /** Behind a CUT the DAY is one later. */
        boolean advise(State state) {
            sight.listCuts(state.tufts);
            int most = 0;
            for (int i = 0; i < sight.listed; i++) {
                int left = state.tufts & ~sight.taken[i];
                int threats = Integer.bitCount(sight.threatBits(left, state.earth, state.day + 1));
                int many = sight.codes[i] % 10;
                if (most == 0 || threats < bestThreats || threats == bestThreats && many > most) {
                    bestCode = sight.codes[i];
                    bestThreats = threats;
                    most = many;
                }
            }
            return most > 0;
        }

        int answer(State state, int i) {
            sight.listCuts(state.tufts);
            int found = 0;
            for (int cut = 0; cut < sight.listed; cut++) {
                int left = state.tufts & ~sight.taken[cut];
                if (!sight.threatened(left, state.earth, state.day + 1)) {
                    if (found == i) {
                        return sight.codes[cut];
                    }
                    found++;
                }
            }
            return i == NONE ? found : NONE;
        }

        /** Whether the house, with this turn, leaves no THREAT for the NIGHT to come. */
        boolean canHold(int tufts, int stateEarth, int day) {
            if (!sight.threatened(tufts, stateEarth, day + 1)) {
                return true;
            }
            sight.listCuts(tufts);
            for (int i = 0; i < sight.listed; i++) {
                if (!sight.threatened(tufts & ~sight.taken[i], stateEarth, day + 1)) {
                    return true;
                }
            }
            return false;
        }

        int forcing(State state) {
            int may = sight.growing(state.tufts, state.earth, state.day);
            for (int cell = 0; cell < sight.ground.cells; cell++) {
                if ((may >> cell & 1) != 0) {
                    int then = state.tufts | 1 << cell;
                    if (sight.ground.hasLine(then) || !canHold(then, state.earth, state.day)) {
                        return cell;
                    }
                }
            }
            return NONE;
        }

        boolean placeMole(State state) {
            bestCode = NONE;
            for (int cell = 0; cell < sight.ground.cells; cell++) {
                int bit = 1 << cell;
                if (((sight.ground.beds | state.earth) & bit) == 0) {
                    int bits = sight.threatBits(state.tufts & ~bit, state.earth | bit, state.day);
                    int threats = Integer.bitCount(bits);
                    if (bestCode == NONE || threats < bestThreats) {
                        bestCode = cell;
                        bestThreats = threats;
                    }
                }
            }
            return bestCode != NONE;
        }

        /** By DAY the house SITS first, so that the first NIGHT is of the next DAY. */
        long oddsOf(State state, int nights, int dry) {
            earth = state.earth;
            chance = dry;
            return partsWon(state.tufts, state.day + state.turn, nights, ALL_PARTS);
        }

        private long partsWon(int tufts, int day, int nights, long parts) {
            if (nights < 1 || parts == 0) {
                return 0;
            }
            int winners = sight.ground.winners(tufts);
            // Of the last NIGHT only what wins comes into the sum.
            int counted = nights == 1 ? winners : sight.ground.all;
            if (counted == 0) {
                return 0;
            }
            int may = sight.growing(tufts, earth, day);
            int places = Integer.bitCount(may);
            if (places == 0) {
                return partsWon(tufts, day + 1, nights - 1, parts);
            }
            long stay = parts * chance / 100;
            long share = (parts - stay) / places;
            long last = parts - stay - share * (places - 1);
            long won = partsWon(tufts, day + 1, nights - 1, stay);
            for (int cell = 0; cell < sight.ground.cells; cell++) {
                if ((may & counted & 1 << cell) != 0) {
                    long lot = may >> cell == 1 ? last : share;
                    boolean wins = (winners >> cell & 1) != 0;
                    won += wins ? lot : partsWon(tufts | 1 << cell, day + 1, nights - 1, lot);
                }
            }
            return won;
        }
    }

    /** ENDS: two who CUT by turns, told by the SUMS of PARTS. */
    private static final class Ends {
        private static final int MOST_TUFTS = 12;
        // Two PARTS of twelve and one of six need the most.
        private static final int MOST_SUMS = 8256;

        private final Sight sight;
        final int[] parts = new int[MOST_CELLS];
        private final int[] places = new int[MOST_CELLS];
        private final int[] localCuts = new int[Sight.MOST_CUTS];
        // Of each PART, of each set of its TUFTS that may be left: the SUM. Made when first asked for.
        private int[] sums;
        private int[] fewest;
        int partCount;
        private int foundIn;
        private boolean found;
        private boolean summed;

        Ends(Sight seen) {
            sight = seen;
        }

        void forget() {
            found = false;
        }

        void findParts(int tufts) {
            if (found && foundIn == tufts) {
                return;
            }
            found = true;
            foundIn = tufts;
            summed = false;
            partCount = 0;
            int left = tufts;
            for (int i = 0; i < MOST_CELLS && left != 0; i++) {
                parts[i] = spread(left & -left, tufts);
                left &= ~parts[i];
                partCount = i + 1;
            }
        }

        private int spread(int seed, int tufts) {
            int part = seed;
            for (int i = 0; i < MOST_CELLS; i++) {
                int wider = part | sight.ground.beside(part) & tufts;
                if (wider == part) {
                    return part;
                }
                part = wider;
            }
            return part;
        }

        boolean isSmall(int part) {
            return Integer.bitCount(parts[part]) <= MOST_TUFTS;
        }

        boolean allSmall() {
            for (int i = 0; i < partCount; i++) {
                if (!isSmall(i)) {
                    return false;
                }
            }
            return true;
        }

        /** Which of a PART's TUFTS, numbered from its lowest, are among these. */
        private int local(int part, int bits) {
            int numbered = 0;
            int number = 0;
            for (int cell = 0; cell < MOST_CELLS; cell++) {
                if ((parts[part] >> cell & 1) != 0) {
                    numbered |= (bits >> cell & 1) << number;
                    number++;
                }
            }
            return numbered;
        }

        private int listLocalCuts(int part) {
            sight.listCuts(parts[part]);
            for (int i = 0; i < sight.listed; i++) {
                localCuts[i] = local(part, sight.taken[i]);
            }
            return sight.listed;
        }

        void sumUp() {
            if (summed) {
                return;
            }
            if (sums == null) {
                sums = new int[MOST_SUMS];
            }
            int place = 0;
            for (int i = 0; i < partCount; i++) {
                int sets = isSmall(i) ? 1 << Integer.bitCount(parts[i]) : 0;
                if (place + sets <= MOST_SUMS) {
                    places[i] = place;
                    sumPart(i, sets);
                    place += sets;
                }
            }
            summed = true;
        }

        // A set that falls apart needs no care of its own: the least number that no CUT leaves is its PARTS' exclusive or.
        private void sumPart(int part, int sets) {
            int cuts = sets == 0 ? 0 : listLocalCuts(part);
            int place = places[part];
            for (int set = 0; set < sets; set++) {
                int left = 0;
                for (int i = 0; i < cuts; i++) {
                    if ((set & localCuts[i]) == localCuts[i]) {
                        left |= 1 << sums[place + (set ^ localCuts[i])];
                    }
                }
                sums[place + set] = Integer.numberOfTrailingZeros(~left);
            }
        }

        int sumLeft(int part, int bits) {
            int place = places[part] + local(part, bits);
            return sums == null || place >= MOST_SUMS ? 0 : sums[place];
        }

        /** Behind sumUp alone. */
        int winningCode() {
            int total = 0;
            for (int i = 0; i < partCount; i++) {
                total ^= sumLeft(i, parts[i]);
            }
            sight.listCuts(foundIn);
            for (int i = 0; i < sight.listed; i++) {
                int part = partWith(sight.taken[i]);
                int whole = parts[part];
                if ((total ^ sumLeft(part, whole) ^ sumLeft(part, whole & ~sight.taken[i])) == 0) {
                    return sight.codes[i];
                }
            }
            return NONE;
        }

        private int partWith(int bits) {
            for (int i = 0; i < partCount; i++) {
                if ((parts[i] & bits) != 0) {
                    return i;
                }
            }
            return 0;
        }

        int fewestCuts() {
            if (fewest == null) {
                fewest = new int[1 << MOST_TUFTS];
            }
            int all = 0;
            for (int i = 0; i < partCount; i++) {
                all += fewestIn(i);
            }
            return all;
        }

        // The lowest TUFT must go by a CUT that begins at it.
        private int fewestIn(int part) {
            int cuts = listLocalCuts(part);
            int sets = 1 << Integer.bitCount(parts[part]);
            for (int set = 1; set < sets && set < fewest.length; set++) {
                int lowest = set & -set;
                int least = MOST_TUFTS;
                for (int i = 0; i < cuts; i++) {
                    int cut = localCuts[i];
                    if ((cut & lowest) != 0 && (set & cut) == cut) {
                        least = Math.min(least, 1 + fewest[set ^ cut]);
                    }
                }
                fewest[set] = least;
            }
            return sets <= fewest.length ? fewest[sets - 1] : 0;
        }
    }

    /** BOOKS, and the pairs of LOW and HIGH by which they are so. */
    private static final class Books {
        private static final int MOST = 12;
        private static final int HIGHEST = 8;

        private final int[] around = new int[MOST];
        private final boolean[] grew = new boolean[MOST];
        int count;

        void clear() {
            count = 0;
        }

        int add(int tuftsAround, boolean may) {
            if (count >= MOST) {
                return NONE;
            }
            around[count] = tuftsAround;
            grew[count] = may;
            count++;
            return count;
        }

        private boolean fits(int low, int high) {
            for (int i = 0; i < count; i++) {
                boolean may = around[i] >= low && around[i] <= high;
                if (may != grew[i]) {
                    return false;
                }
            }
            return true;
        }

        int fitting(int i) {
            int found = 0;
            for (int low = 0; low <= HIGHEST; low++) {
                for (int high = low; high <= HIGHEST; high++) {
                    if (fits(low, high)) {
                        if (found == i) {
                            return 10 * low + high;
                        }
                        found++;
                    }
                }
            }
            return i == NONE ? found : NONE;
        }

        /** How far apart in number the pairs are that say it MAY GROW and that say it may not. */
        int apart(int tuftsAround) {
            int sum = 0;
            for (int low = 0; low <= HIGHEST; low++) {
                for (int high = low; high <= HIGHEST; high++) {
                    if (fits(low, high)) {
                        sum += tuftsAround >= low && tuftsAround <= high ? 1 : -1;
                    }
                }
            }
            return Math.abs(sum);
        }
    }
}
