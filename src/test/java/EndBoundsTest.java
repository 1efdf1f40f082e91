import java.util.HashMap;
import java.util.HashSet;
import java.util.Map;
import java.util.Set;
import java.util.TreeSet;

/** The bounds of ENDS, BOOKS, mirrors, counts (Terms 3, promises 28 to 36, 43): each method is about one sentence of the document. */
public final class EndBoundsTest {
    private static final Check CHECK = new Check();
    private static final int[] FAR = {-2, -100, 100, 1 << 20, Integer.MAX_VALUE, Integer.MIN_VALUE, Integer.MIN_VALUE + 1};
    private static final int HIDDEN = LawnAhead.HIDDEN;

    private static LawnAhead grown(String lawn, int... cells) {
        LawnAhead x = Check.lawn(lawn);
        for (int cell : cells) {
            if (x.grow(cell) < 0) {
                throw new IllegalArgumentException(lawn + " " + cell);
            }
            x.sit();
        }
        return x;
    }

    /** The TUFTS beside a lowest one, to the right and down, by the document's words. */
    private static int partOf(int bits, int w) {
        int part = bits & -bits;
        for (int round = 0; round < 30; round++) {
            for (int cell = 0; cell < 30; cell++) {
                boolean right = cell % w < w - 1 && (bits >> cell & 1) != 0 && (bits >> cell + 1 & 1) != 0;
                boolean down = (bits >> cell & 1) != 0 && cell + w < 30 && (bits >> cell + w & 1) != 0;
                int pairRight = 3 << cell;
                int pairDown = 1 << cell | 1 << cell + w;
                part |= right && (part & pairRight) != 0 ? pairRight : 0;
                part |= down && (part & pairDown) != 0 ? pairDown : 0;
            }
        }
        return part;
    }

    private static Map<Integer, Integer> cutsOf(int bits, int w, int k) {
        Map<Integer, Integer> cuts = new java.util.TreeMap<>();
        for (int cell = 0; cell < 30; cell++) {
            int right = 0;
            int down = 0;
            for (int n = 1; n <= k; n++) {
                int atRight = cell + n - 1;
                int atDown = cell + (n - 1) * w;
                right |= atRight < 30 && cell % w + n <= w ? 1 << atRight : 1 << 31;
                down |= atDown < 30 ? 1 << atDown : 1 << 31;
                if ((bits & right) == right) {
                    cuts.put(100 * cell + n, right);
                }
                if (n > 1 && (bits & down) == down) {
                    cuts.put(100 * cell + 10 + n, down);
                }
            }
        }
        return cuts;
    }

    /** "the least number that no CUT in it leaves as the SUM of what is there then (0 of none; of what falls apart: of all PARTS ..)" */
    private static int sum(int bits, int w, int k, Map<Integer, Integer> known) {
        if (bits == 0) {
            return 0;
        }
        if (!known.containsKey(bits)) {
            int part = partOf(bits, w);
            int value = 0;
            if (part == bits) {
                Set<Integer> left = new HashSet<>();
                for (int taken : cutsOf(bits, w, k).values()) {
                    left.add(sum(bits & ~taken, w, k, known));
                }
                while (left.contains(value)) {
                    value++;
                }
            } else {
                value = sum(part, w, k, known) ^ sum(bits & ~part, w, k, known);
            }
            known.put(bits, value);
        }
        return known.get(bits);
    }

    private static int winning(int bits, int w, int k, Map<Integer, Integer> known) {
        for (Map.Entry<Integer, Integer> cut : cutsOf(bits, w, k).entrySet()) {
            if (sum(bits & ~cut.getValue(), w, k, known) == 0) {
                return cut.getKey();
            }
        }
        return -1;
    }

    /** By the house alone, whatever it cuts first. */
    private static int fewest(int bits, int w, int k, Map<Integer, Integer> known) {
        if (bits == 0) {
            return 0;
        }
        if (!known.containsKey(bits)) {
            int least = 99;
            for (int taken : cutsOf(bits, w, k).values()) {
                least = Math.min(least, 1 + fewest(bits & ~taken, w, k, known));
            }
            known.put(bits, least);
        }
        return known.get(bits);
    }

    private static void endsAre(String name, LawnAhead x) {
        int bits = x.count(15);
        int w = x.rule(0);
        int k = x.rule(3);
        Map<Integer, Integer> sums = new HashMap<>();
        int left = bits;
        int parts = 0;
        int few = 0;
        while (left != 0) {
            int part = partOf(left, w);
            CHECK.due(name + " part " + parts, x.parts(parts), part);
            CHECK.due(name + " sum of part " + parts, x.sumOf(parts), sum(part, w, k, sums));
            few += fewest(part, w, k, new HashMap<>());
            left &= ~part;
            parts++;
        }
        int behind = parts;
        CHECK.due(name + " parts", x.parts(-1), parts);
        CHECK.refused(name + " no such part", x, -1, () -> x.parts(behind));
        CHECK.refused(name + " no such sum", x, HIDDEN, () -> x.sumOf(behind));
        CHECK.refused(name + " winning", x, winning(bits, w, k, sums), x::winning);
        CHECK.refused(name + " fewest", x, few, x::fewest);
    }

    /** "SUM of a PART (12 TUFTS at most)": of twelve it is told, by any shears. */
    private static void twelveInOnePart() {
        int[][] shapes = {{0, 1, 2, 3, 6, 7, 8, 9, 12, 13, 14, 15}, {0, 1, 2, 3, 9, 15, 16, 17, 23, 29, 28, 27},
            {1, 6, 7, 8, 9, 12, 14, 18, 19, 20, 21, 27}, {0, 6, 12, 18, 19, 20, 21, 15, 9, 3, 2, 10}};
        for (int[] shape : shapes) {
            for (int k = 1; k <= 5; k += 2) {
                StringBuilder lawn = new StringBuilder("sw6h5q5k" + k);
                for (int cell : shape) {
                    lawn.append(";tc").append(cell);
                }
                LawnAhead x = Check.lawn(lawn.toString());
                CHECK.due("one part", x.parts(-1), 1);
                endsAre(lawn.toString(), x);
            }
        }
    }

    /** "HIDDEN: .. more than 12 TUFTS": the thirteenth that joins a PART, not one beside it. */
    private static void thirteenInOnePart() {
        String twelve = "sw6h5q5k3;tc0;tc1;tc2;tc3;tc6;tc7;tc8;tc9;tc12;tc13;tc14;tc15";
        endsAre("apart", grown(twelve, 17, 23));
        endsAre("over a corner", grown(twelve, 22));
        LawnAhead x = grown(twelve, 17, 18);
        CHECK.due("thirteen and one", x.parts(-1), 2);
        CHECK.due("the thirteen", Integer.bitCount(x.parts(0)), 13);
        CHECK.refused("their sum", x, HIDDEN, () -> x.sumOf(0));
        CHECK.refused("the sum of the one", x, 1, () -> x.sumOf(1));
        CHECK.refused("behind it", x, HIDDEN, () -> x.sumOf(2));
        CHECK.refused("winning", x, HIDDEN, x::winning);
        CHECK.refused("fewest", x, HIDDEN, x::fewest);
        x.sit();
        x.cut(18, 0, 1);
        endsAre("twelve again", x);
        LawnAhead joined = grown("sw6h5q5;tc0;tc1;tc2;tc6;tc7;tc8;tc4;tc5;tc10;tc11;tc16;tc17", 9);
        CHECK.due("two parts are one by a thirteenth", joined.parts(-1), 1);
        CHECK.refused("hidden", joined, HIDDEN, () -> joined.sumOf(0));
        joined.undo();
        joined.undo();
        endsAre("undone", joined);
    }

    /** "PARTS: TUFTS beside one another, to the right and down (by their lowest CELLS): how many, the i-th (bits)." None, many, large ones. */
    private static void parts() {
        endsAre("none", Check.lawn("sw6h5"));
        endsAre("one", Check.lawn("sw1h1;t"));
        endsAre("the last cell", Check.lawn("sw6h5;tc29"));
        endsAre("a board of squares", Check.lawn("sw6h4q5;tc0;tc2;tc4;tc7;tc9;tc11;tc12;tc14;tc16;tc19;tc21;tc23"));
        endsAre("not over an edge", Check.lawn("sw3h3;tc2;tc3;tc5;tc6"));
        endsAre("a column", Check.lawn("sw1h5q5k3;tc0;tc1;tc3;tc4"));
        endsAre("twelve and eight", grown("sw6h5q5k2;tc0;tc1;tc2;tc6;tc7;tc8;tc12;tc13;tc14;tc18;tc19;tc20", 4, 5, 10, 11, 16, 17, 22, 23));
        endsAre("eight and twelve", grown("sw6h5q5k4;tc3;tc4;tc5;tc9;tc10;tc11;tc15;tc16;tc17;tc21;tc22;tc23", 0, 1, 6, 7, 12, 13, 18, 19));
        LawnAhead x = Check.lawn("tc0;tc2");
        for (int far : FAR) {
            CHECK.refused("parts(" + far + ")", x, -1, () -> x.parts(far));
            CHECK.refused("sumOf(" + far + ")", x, HIDDEN, () -> x.sumOf(far));
        }
        CHECK.refused("sumOf(-1)", x, HIDDEN, () -> x.sumOf(-1));
        CHECK.refused("by day as by night", x, 1, () -> x.sumOf(1));
    }

    /** ENDS go on with what is there: behind each CUT, MOLE and when it is WON. */
    private static void endsAsTheyChange() {
        LawnAhead x = Check.lawn("sw4h3q4k2x1;tc0;tc1;tc2;tc4;tc6;tc9;tc10");
        endsAre("at first", x);
        x.cut(0, 1, 2);
        endsAre("behind a cut", x);
        x.mole(6);
        endsAre("behind a mole", x);
        x.grow(5);
        endsAre("behind growing", x);
        x.undo();
        endsAre("undone", x);
        x.mole(2);
        x.mole(9);
        x.mole(10);
        x.mole(1);
        CHECK.due("none any more", x.count(1), 0);
        endsAre("none any more", x);
        LawnAhead large = grown("sw6h5q5;tc29;tc7;tc2;tc3;tc4;tc8;tc9;tc10;tc14;tc15;tc16;tc20", 21, 22, 0);
        CHECK.due("a large one in the middle", large.winning(), HIDDEN);
        CHECK.due("three parts", large.parts(-1), 3);
        Check.tell(large, 0, "tc0");
        endsAre("one small one then", large);
        LawnAhead won = grown("sw4h1q3;tc0;tc1", 2);
        CHECK.due("won", won.count(8), 1);
        endsAre("won", won);
        Check.tell(won, 0, "sw2h2q3;tc0;tc1;tc2");
        endsAre("another lawn", won);
        Check.tell(won, 0, "sw3h1q4;tc0;tc1;tc2");
        endsAre("the same bits, another width", won);
        Check.tell(won, 0, "sw3h1q4k3;tc0;tc1;tc2");
        endsAre("the same bits, other shears", won);
        Check.tell(won, 0, "sw5h1;tc0;tc3");
        endsAre("two small ones then", won);
        Check.tell(won, 0, "sw5h1q5k4;tc0;tc1;tc2;tc3");
        endsAre("a row by long shears", won);
        Check.tell(won, 0, "sw3h2q5k1;tc0;tc1;tc2;tc3;tc4");
        endsAre("five by short ones", won);
    }

    /** "WINNING: the least code .. NONE: none": a SUM of 0 has none. */
    private static void winningOrNot() {
        CHECK.due("no tuft", Check.lawn("s").winning(), -1);
        CHECK.due("one and one", Check.lawn("tc0;tc19").winning(), -1);
        CHECK.due("one, one and one", Check.lawn("tc0;tc10;tc19").winning(), 1);
        CHECK.due("two down", Check.lawn("sw3h5;tc4;tc7").winning(), 412);
        CHECK.due("the last cell", Check.lawn("sw6h5;tc29").winning(), 2901);
    }

    /** "BOOKS (12 at most)": "how many there are. NONE: no CELL of GRASS, there are 12." */
    private static void twelveBooks() {
        LawnAhead x = Check.lawn("sw4h1;tc0;bc1");
        x.mole(2);
        for (int cell : new int[] {-1, 0, 1, 2, 4, 30, Integer.MAX_VALUE, Integer.MIN_VALUE}) {
            CHECK.refused("no grass at " + cell, x, -1, () -> x.book(cell, true));
            CHECK.refused("may not, either, at " + cell, x, -1, () -> x.book(cell, false));
        }
        for (int i = 1; i <= 12; i++) {
            CHECK.due("book", x.book(3, true), i);
            CHECK.due("count(12)", x.count(12), i);
        }
        CHECK.refused("a 13th", x, -1, () -> x.book(3, true));
        CHECK.refused("a 13th that may not", x, -1, () -> x.book(3, false));
        CHECK.due("by day", Check.lawn("sx1").book(0, true), 1);
        LawnAhead won = Check.lawn("sw4h1;tc0;tc1");
        won.grow(2);
        CHECK.due("when it is won, grass is grass", won.book(3, false), 1);
        Check.tell(x, 0, "sw4h1");
        CHECK.due("of another lawn none", x.count(12), 0);
        CHECK.due("one again", x.book(0, false), 1);
    }

    /** A LAWN whose CELL 4 has so many TUFTS AROUND. */
    private static LawnAhead ring(int many) {
        int[] ring = {0, 1, 2, 3, 5, 6, 7, 8};
        StringBuilder lawn = new StringBuilder("sw3h3q5");
        for (int i = 0; i < many; i++) {
            lawn.append(";tc").append(ring[i]);
        }
        return Check.lawn(lawn.toString());
    }

    /** "FIT: pairs of LOW and HIGH (.. LOW no more than HIGH) by which all BOOKS are so: how many, the i-th (rising)." */
    private static void fitsOfOneBook() {
        for (int many = 0; many <= 8; many++) {
            for (int may = 0; may < 2; may++) {
                LawnAhead x = ring(many);
                x.book(4, may == 1);
                TreeSet<Integer> fits = new TreeSet<>();
                for (int low = 0; low <= 8; low++) {
                    for (int high = low; high <= 8; high++) {
                        if ((low <= many && many <= high) == (may == 1)) {
                            fits.add(10 * low + high);
                        }
                    }
                }
                int i = 0;
                CHECK.due("fits of " + many + " " + may, x.fit(-1), fits.size());
                for (int fit : fits) {
                    CHECK.due("fit " + i, x.fit(i), fit);
                    i++;
                }
                int behind = i;
                CHECK.refused("behind the last", x, -1, () -> x.fit(behind));
                for (int far : FAR) {
                    CHECK.refused("fit(" + far + ")", x, -1, () -> x.fit(far));
                }
            }
        }
    }

    /** "TUFTS as they are then": what is done later does not change a BOOK; "by LOW and HIGH alone": nor does a LAW. */
    private static void booksStay() {
        LawnAhead x = Check.lawn("sw3h1q5;tc0");
        x.book(1, true);
        CHECK.due("one around", x.fit(-1), 16);
        x.mole(0);
        CHECK.due("still one around", x.fit(-1), 16);
        Check.tell(x, 1, "y:0");
        x.law(0);
        CHECK.due("whatever the law", x.book(1, true), 2);
        CHECK.due("none around, one around", x.fit(-1), 8);
        x.image();
        x.sit();
        x.undo();
        x.back();
        CHECK.due("no act", x.count(12), 2);
        CHECK.due("no log of it", x.count(13), 1);
        CHECK.due("a contradiction", x.book(1, false), 3);
        CHECK.due("none fits", x.fit(-1), 0);
        CHECK.due("no first", x.fit(0), -1);
    }

    /** "TELLS: the CELL of GRASS by which those that say it MAY and those that say it may not are least apart in number (.. the lowest)." */
    private static void tells() {
        String[] lawns = {"sw5h3q5;tc0;tc1;tc2;tc5;tc7;tc10", "sw6h5q5;tc7;tc8;tc13;tc15;tc20;tc26", "sw3h3q5;tc0;tc1;tc2;tc3;tc5;tc6;tc7;tc8",
            "sw4h4q5;tc0;tc5;tc10;tc15;bc1;bc2", "sw6h1;tc0", "sw2h2"};
        for (String lawn : lawns) {
            for (int books = 0; books < 16; books++) {
                LawnAhead x = Check.lawn(lawn);
                int cells = x.count(0);
                for (int i = 0; i < 2; i++) {
                    int cell = (books >> 1 + i) * 5 % cells;
                    x.book(cell, (books >> i & 1) == 0);
                }
                int best = -1;
                int least = 99;
                for (int cell = 0; cell < cells; cell++) {
                    int may = 0;
                    int fits = x.fit(-1);
                    for (int i = 0; i < fits; i++) {
                        int pair = x.fit(i);
                        may += x.cell(cell, 1) >= pair / 10 && x.cell(cell, 1) <= pair % 10 ? 1 : 0;
                    }
                    if (x.cell(cell, 0) == 0 && Math.abs(fits - 2 * may) < least) {
                        least = Math.abs(fits - 2 * may);
                        best = cell;
                    }
                }
                CHECK.refused(lawn + " tells", x, best, x::tells);
            }
        }
        LawnAhead x = Check.lawn("sw2h1;t;bc1");
        CHECK.refused("no grass", x, -1, x::tells);
        LawnAhead last = Check.lawn("sw2h1;t");
        CHECK.due("the last cell", last.tells(), 1);
        last.mole(1);
        CHECK.refused("no grass any more", last, -1, last::tells);
    }

    private static int turned(int cell, int mirror, int w, int h) {
        int r = cell / w;
        int c = cell % w;
        switch (mirror) {
            case 0: return cell;
            case 1: return (h - 1 - r) * w + c;
            case 2: return r * w + w - 1 - c;
            case 3: return (h - 1 - r) * w + w - 1 - c;
            case 4: return c * w + r;
            case 5: return c * w + w - 1 - r;
            case 6: return (w - 1 - c) * w + r;
            default: return (w - 1 - c) * w + w - 1 - r;
        }
    }

    private static int turnedBits(int bits, int mirror, int w, int h) {
        int moved = 0;
        for (int cell = 0; cell < w * h; cell++) {
            moved |= (bits >> cell & 1) << turned(cell, mirror, w, h);
        }
        return moved;
    }

    private static int kinds(LawnAhead x, int kind) {
        int bits = 0;
        for (int cell = 0; cell < x.count(0); cell++) {
            bits |= x.cell(cell, 0) == kind ? 1 << cell : 0;
        }
        return bits;
    }

    /** "ALIKE: by how many of turns and mirrors (8 if WIDTH is HEIGHT, else 4 ..) TUFTS lie as they do; LEAST: the least bits" */
    private static void mirrorsAre(LawnAhead x) {
        int w = x.rule(0);
        int h = x.rule(1);
        int mirrors = w == h ? 8 : 4;
        int tufts = kinds(x, 1);
        int same = 0;
        int least = Integer.MAX_VALUE;
        int[] lowest = new int[w * h];
        for (int cell = 0; cell < w * h; cell++) {
            lowest[cell] = cell;
        }
        for (int mirror = 0; mirror < mirrors; mirror++) {
            int moved = turnedBits(tufts, mirror, w, h);
            same += moved == tufts ? 1 : 0;
            least = Math.min(least, moved);
            boolean all = moved == tufts && turnedBits(kinds(x, 2), mirror, w, h) == kinds(x, 2)
                && turnedBits(kinds(x, 3), mirror, w, h) == kinds(x, 3);
            for (int cell = 0; all && cell < w * h; cell++) {
                int other = turned(cell, mirror, w, h);
                lowest[cell] = x.cell(other, 2) == 1 ? Math.min(lowest[cell], other) : lowest[cell];
            }
        }
        Set<Integer> openings = new HashSet<>();
        for (int cell = 0; cell < w * h; cell++) {
            if (x.cell(cell, 2) == 1) {
                openings.add(lowest[cell]);
            }
        }
        CHECK.refused("alike", x, same, () -> x.alike(0));
        CHECK.refused("least", x, least, () -> x.alike(1));
        CHECK.refused("openings", x, openings.size(), x::openings);
    }

    /** Every size, empty and with one TUFT, one BED, one CELL of EARTH at each end. */
    private static void mirrors() {
        for (int w = 1; w <= 6; w++) {
            for (int h = 1; h <= 5; h++) {
                String size = "sw" + w + "h" + h;
                int last = w * h - 1;
                LawnAhead empty = Check.lawn(size);
                mirrorsAre(empty);
                CHECK.due("empty: by all", empty.alike(0), w == h ? 8 : 4);
                CHECK.due("empty: 0", empty.alike(1), 0);
                int quarter = (w + 1) / 2 * ((h + 1) / 2);
                int eighth = (w + 1) / 2 * ((w + 1) / 2 + 1) / 2;
                CHECK.due("empty: openings", empty.openings(), w == h ? eighth : quarter);
                for (int cell = 0; cell <= last; cell += Math.max(1, last / 3)) {
                    mirrorsAre(Check.lawn(size + ";tc" + cell));
                    mirrorsAre(Check.lawn(size + ";bc" + cell));
                    LawnAhead earth = Check.lawn(size);
                    earth.mole(cell);
                    mirrorsAre(earth);
                    if (cell != last) {
                        mirrorsAre(Check.lawn(size + ";tc" + cell + ";tc" + last));
                        mirrorsAre(Check.lawn(size + ";tc" + cell + ";bc" + last));
                        LawnAhead both = Check.lawn(size + ";bc" + cell);
                        both.mole(last);
                        mirrorsAre(both);
                    }
                }
            }
        }
    }

    /** "those that go over into one another by a turn or mirror that leaves TUFTS, BEDS, EARTH as they are counted as one" */
    private static void openingsByLaw() {
        String[] laws = {"y:r=0?1", "y:c=0?1", "y:c+1>r?1", "y:r=c?1", "y:r+c=2?1", "y:r-1", "y:0", "y:1"};
        for (String law : laws) {
            for (String lawn : new String[] {"sw3h3", "sw3h3;tc4", "sw4h3", "sw3h3;tc0;tc8", "sw5h5q5;tc2;tc22;bc10;bc14", "sw3h3;tc1;bc3"}) {
                LawnAhead x = Check.lawn(lawn);
                Check.tell(x, 1, law);
                x.law(0);
                mirrorsAre(x);
            }
        }
        LawnAhead x = Check.lawn("s");
        for (int far : FAR) {
            CHECK.refused("alike(" + far + ")", x, -1, () -> x.alike(far));
        }
        CHECK.refused("alike(2)", x, -1, () -> x.alike(2));
        CHECK.refused("alike(-1)", x, -1, () -> x.alike(-1));
    }

    /** "HIDDEN for others." */
    private static void counts() {
        LawnAhead x = Check.lawn("s");
        for (int what : new int[] {-1, 16, 17, Integer.MAX_VALUE, Integer.MIN_VALUE}) {
            CHECK.refused("count(" + what + ")", x, HIDDEN, () -> x.count(what));
            CHECK.due("of a new one", new LawnAhead().count(what), HIDDEN);
        }
        LawnAhead full = Check.lawn("sw6h5q5k5;tc0;tc29");
        CHECK.due("bits of the first and last cell", full.count(15), 1 | 1 << 29);
        CHECK.due("30 cells", full.count(0), 30);
        CHECK.due("2 tufts", full.count(1), 2);
    }

    public static void main(String[] args) {
        twelveInOnePart();
        thirteenInOnePart();
        parts();
        endsAsTheyChange();
        winningOrNot();
        twelveBooks();
        fitsOfOneBook();
        booksStay();
        tells();
        mirrors();
        openingsByLaw();
        counts();
        CHECK.finish();
    }
}
