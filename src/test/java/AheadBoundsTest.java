/** The bounds of looking ahead (Terms 3, promises 20 to 26, 37, 38): each method is about one sentence of the document. */
public final class AheadBoundsTest {
    private static final Check CHECK = new Check();
    private static final int[] FAR = {-2, -100, 1000, 1 << 20, Integer.MAX_VALUE, Integer.MIN_VALUE, Integer.MIN_VALUE + 1};
    private static final int ALL = 1000000000;

    private static LawnAhead withGame(String lawn, String game) {
        LawnAhead x = Check.lawn(lawn);
        if (Check.tell(x, 2, game) != 0) {
            throw new IllegalArgumentException(game);
        }
        return x;
    }

    private static LawnAhead withLaw(String lawn, String law) {
        LawnAhead x = Check.lawn(lawn);
        if (Check.tell(x, 1, law) != 0 || !x.law(0)) {
            throw new IllegalArgumentException(law);
        }
        return x;
    }

    /** "CELLS for all missing leaves (3 at most, in turn)": "NONE: .. more than three missing" */
    private static void leavesUpToThree() {
        String[] games = {"x", "g?", "g?;x;g?", "g?;x;g?;x;g?", "g?;x;g?;x;g?;x;g?", "g?" + ";g?".repeat(15)};
        int[] aims = {0, Check.bits(3), Check.bits(3, 0), Check.bits(3, 0, 1), Check.bits(3, 0, 1, 2), 0};
        int[] ways = {1, 1, 2, 6, -1, -1};
        for (int i = 0; i < games.length; i++) {
            LawnAhead x = withGame("sw2h2q5", games[i]);
            int aim = aims[i];
            int many = ways[i];
            CHECK.refused("ways of " + games[i], x, many, () -> x.missing(0, aim, -1));
            CHECK.refused("no such one of " + games[i], x, -1, () -> x.missing(0, aim, Math.max(many, 0)));
        }
    }

    /** "(as digits to the base 30, the first leaf the highest; rising)" */
    private static void digitsOfLeaves() {
        LawnAhead x = withGame("sw6h5q5", "g?;x;g?;x;g?");
        int aim = Check.bits(0, 1, 29);
        int[] codes = {59, 29 * 30 + 1, 929, 900 + 29 * 30, 29 * 900 + 1, 29 * 900 + 30};
        CHECK.due("six ways", x.missing(0, aim, -1), 6);
        for (int i = 0; i < 6; i++) {
            CHECK.due("way " + i, x.missing(0, aim, i), codes[i]);
        }
        CHECK.due("no seventh", x.missing(0, aim, 6), -1);
        for (int far : FAR) {
            CHECK.refused("way " + far, x, -1, () -> x.missing(0, aim, far));
        }
        CHECK.due("the highest", x.missing(0, Check.bits(27, 28, 29), 5), 29 * 900 + 28 * 30 + 27);
        LawnAhead one = withGame("sw6h5q5", "g?");
        for (int cell = 0; cell < 30; cell++) {
            CHECK.due("one leaf", one.missing(0, 1 << cell, 0), cell);
        }
    }

    /** "no such set of CELLS": a bit that is no CELL's. */
    private static void noSuchSet() {
        for (String size : new String[] {"sw1h1", "sw3h2", "sw6h5"}) {
            LawnAhead x = withGame(size, "x");
            int cells = x.count(0);
            for (int bit = 0; bit < 32; bit++) {
                int set = 1 << bit;
                CHECK.refused(size + " bit " + bit, x, bit < cells ? 0 : -1, () -> x.missing(0, set, -1));
            }
            CHECK.due(size + " no cell", x.missing(0, 0, -1), 1);
            CHECK.due(size + " all cells", x.missing(0, (1 << cells) - 1, -1), 0);
            CHECK.refused(size + " one too many", x, -1, () -> x.missing(0, 1 << cells, -1));
            CHECK.refused(size + " -1", x, -1, () -> x.missing(0, -1, -1));
            CHECK.refused(size + " all and one more", x, -1, () -> x.missing(0, (1 << cells + 1) - 1, 0));
        }
        LawnAhead x = withGame("s", "x");
        for (int far : new int[] {-1, 1, 4, Integer.MIN_VALUE, Integer.MAX_VALUE}) {
            CHECK.refused("no such game " + far, x, -1, () -> x.missing(far, 0, -1));
        }
    }

    /** "by which all MOVES can be and TUFTS are then a told set" */
    private static void allMovesCanBe() {
        CHECK.due("a leaf by day", withGame("sw2h1x1", "g?").missing(0, 1, -1), 0);
        CHECK.due("on what is cut then", withGame("sw3h1", "g?;c1r1").missing(0, 0, 0), 1);
        CHECK.due("on what a mole takes then", withGame("sw3h1", "g?;m2").missing(0, 0, 0), 2);
        CHECK.due("or beside it", withGame("sw3h1", "g?;m2").missing(0, 1, 0), 0);
        CHECK.due("not on earth", withGame("sw2h1", "m0;g?").missing(0, 1, -1), 0);
        CHECK.due("two cut by one cut", withGame("sw3h1q4", "g?;x;g?;c1r2").missing(0, 0, -1), 2);
        CHECK.due("the last may win", withGame("sw3h1;tc0;tc1", "g?").missing(0, 7, 0), 2);
        CHECK.due("no move behind a win", withGame("sw3h1;tc0;tc1", "g?;x").missing(0, 7, -1), 0);
        CHECK.due("not the first of two if it wins", withGame("sw4h1;tc0;tc1", "g?;x;g?").missing(0, 15, 0), 3 * 30 + 2);
        CHECK.due("one way alone", withGame("sw4h1;tc0;tc1", "g?;x;g?").missing(0, 15, -1), 1);
        CHECK.due("a move that can't be", withGame("sw2h1", "g?;g1").missing(0, 3, -1), 0);
        CHECK.due("a cut beyond the shears", withGame("sw3h1k1", "g?;x;g1;c0r2").missing(0, 0, -1), 0);
        CHECK.due("none missing and it can't be", withGame("sw2h1", "g0;g1").missing(0, 1, -1), 0);
        CHECK.due("none missing, nothing grown", withGame("sw2h1", "x;x;m0").missing(0, 0, 0), 0);
        CHECK.due("none missing, what is there is cut", withGame("sw2h1;t", "x;c0r1").missing(0, 0, -1), 1);
        CHECK.due("sixteen moves", withGame("sw2h1", "x" + ";x".repeat(13) + ";g?;m1").missing(0, 0, 0), 1);
        CHECK.due("sixteen moves, the last missing", withGame("sw2h1x1", "x" + ";x".repeat(14) + ";g?").missing(0, 2, 0), 1);
        LawnAhead full = withGame("sw1h1;t", "g?");
        CHECK.due("no cell that may grow", full.missing(0, 1, -1), 0);
        LawnAhead won = withGame("sw3h1;tc0;tc1", "x");
        won.grow(2);
        CHECK.due("when it is won", won.missing(0, 7, -1), 0);
        CHECK.due("run then", won.run(0), 0);
    }

    /** "CUTS: all codes there are: how many, the i-th (rising)." NONE: no such one. */
    private static void cuts() {
        LawnAhead x = Check.lawn("sw6h5k5q5;tc0;tc1;tc2;tc3;tc6;tc12;tc18;tc29;tc23;tc17;tc28;tc27");
        int many = x.cuts(-1);
        int last = -1;
        for (int i = 0; i < many; i++) {
            CHECK.due("rising", x.cuts(i) > last, true);
            last = x.cuts(i);
        }
        CHECK.due("the first", x.cuts(0), 1);
        CHECK.due("the last", last, 2901);
        CHECK.refused("behind the last", x, -1, () -> x.cuts(many));
        for (int far : FAR) {
            CHECK.refused("cuts(" + far + ")", x, -1, () -> x.cuts(far));
            CHECK.refused("answers(" + far + ")", x, -1, () -> x.answers(far));
        }
        LawnAhead none = Check.lawn("sw6h5");
        CHECK.due("none", none.cuts(-1), 0);
        CHECK.due("no first", none.cuts(0), -1);
        CHECK.due("no answers", none.answers(-1), 0);
        CHECK.due("no first answer", none.answers(0), -1);
        CHECK.due("one", Check.lawn("sw6h5;tc29").cuts(0), 2901);
    }

    /** "(All whoever's turn it is; nobody asks whether it is WON.)" */
    private static void whoeversTurn() {
        String[] lawns = {"tc6;tc7;tc12", "tc0;tc19", "sk5q4;tc0;tc1;tc2;tc5"};
        for (String lawn : lawns) {
            LawnAhead night = Check.lawn(lawn);
            LawnAhead day = Check.lawn(lawn);
            day.sit();
            CHECK.due("by day", day.count(7), 1);
            CHECK.due("threats", day.threats(), night.threats());
            CHECK.due("advice", day.advice(0), night.advice(0));
            CHECK.due("threats then", day.advice(1), night.advice(1));
            CHECK.due("where", day.where(0), night.where(0));
            for (int i = -1; i < 20; i++) {
                CHECK.due("cuts", day.cuts(i), night.cuts(i));
                CHECK.due("answers", day.answers(i), night.answers(i));
            }
        }
        LawnAhead won = Check.lawn("sw4h1;tc0;tc1");
        won.grow(2);
        CHECK.due("won", won.count(8), 1);
        CHECK.due("a line is there if it grows", won.threats(), Check.bits(3));
        CHECK.due("five cuts", won.cuts(-1), 5);
        CHECK.due("answers", won.answers(-1), 2);
        CHECK.due("one alone leaves a threat", won.answers(0), 2);
        CHECK.due("wherever the two are", won.answers(1), 102);
        CHECK.due("advice", won.advice(0), 2);
        CHECK.due("none then", won.advice(1), 0);
        CHECK.due("a mole", won.where(0), 1);
        CHECK.due("none by it", won.where(1), 0);
        CHECK.due("odds", won.odds(2, 50), ALL);
    }

    /** "THREATS: CELLS (bits) where it MAY GROW and would have WON by it." At the corners of the largest LAWN. */
    private static void threatsAtTheEdges() {
        CHECK.due("0 and 29", Check.lawn("sw6h5;tc1;tc2;bc3;tc27;tc28;bc26").threats(), Check.bits(0, 29));
        CHECK.due("5 and 24", Check.lawn("sw6h5;tc10;tc15;bc20;tc19;tc14;bc9;bc13;bc16").threats(), Check.bits(5, 24));
        CHECK.due("not over an edge", Check.lawn("sw6h5;tc4;tc5").threats(), Check.bits(3));
        CHECK.due("all of a small one", Check.lawn("sw2h2q2;t").threats(), Check.bits(1, 2, 3));
        CHECK.due("none where it may not", Check.lawn("sw3h1l2;tc0;tc1").threats(), 0);
        CHECK.due("where it just may", Check.lawn("sw3h1l1u1;tc0;tc1").threats(), Check.bits(2));
        for (int q = 2; q <= 5; q++) {
            StringBuilder lawn = new StringBuilder("sw6h1q" + q);
            for (int i = 1; i < q; i++) {
                CHECK.due("too few for " + q, Check.lawn(lawn.toString()).threats(), 0);
                lawn.append(";tc").append(i);
            }
            CHECK.due("both ends of " + q, Check.lawn(lawn.toString()).threats(), Check.bits(0) | (q < 6 ? Check.bits(q) : 0));
        }
    }

    /** "ADVICE: .. THREATS are the fewest (of several with the most TUFTS cut, then the least code)": "NONE: no TUFT, .. no such what" */
    private static void advice() {
        LawnAhead x = Check.lawn("tc0;tc1;tc5");
        for (int far : FAR) {
            CHECK.refused("advice(" + far + ")", x, -1, () -> x.advice(far));
            CHECK.refused("where(" + far + ")", x, -1, () -> x.where(far));
        }
        for (int n : new int[] {-1, 2}) {
            CHECK.refused("advice(" + n + ")", x, -1, () -> x.advice(n));
            CHECK.refused("where(" + n + ")", x, -1, () -> x.where(n));
        }
        CHECK.due("two rather than one, the least code", x.advice(0), 2);
        LawnAhead fewer = Check.lawn("tc0;tc2;tc18;tc19;bc17");
        CHECK.due("fewer threats rather than more tufts", fewer.advice(0), 1);
        CHECK.due("none then", fewer.advice(1), 0);
        CHECK.due("one of one", Check.lawn("sw1h1;t").advice(0), 1);
        CHECK.due("of two alike the lower", Check.lawn("tc3;tc11").advice(0), 301);
        CHECK.due("down, if it takes more", Check.lawn("sk3q4;tc0;tc1;tc7;tc12;tc17").advice(0), 713);
        CHECK.due("no tuft", Check.lawn("s").advice(0), -1);
        LawnAhead last = Check.lawn("sw1h1;t");
        last.mole(0);
        CHECK.refused("no tuft any more", last, -1, () -> last.advice(1));
    }

    /** "HOLDS n (1, 2) NIGHTS from a NIGHT now": "NONE: not by NIGHT, it is WON, out of bounds, no LAWN." */
    private static void holding() {
        LawnAhead x = Check.lawn("sw4h1;tc0;tc1");
        for (int n : new int[] {0, 3, -1, -2, 4, Integer.MAX_VALUE, Integer.MIN_VALUE}) {
            CHECK.refused("holds(" + n + ")", x, -1, () -> x.holds(n));
        }
        CHECK.due("not one night", x.holds(1), 0);
        CHECK.due("not two", x.holds(2), 0);
        CHECK.due("forced", x.forced(), 2);
        x.sit();
        CHECK.refused("holds(1) not by night", x, -1, () -> x.holds(1));
        CHECK.refused("holds(2) not by night", x, -1, () -> x.holds(2));
        CHECK.refused("forced not by night", x, -1, x::forced);
        x.sit();
        x.grow(2);
        CHECK.refused("holds(1) when it is won", x, -1, () -> x.holds(1));
        CHECK.refused("holds(2) when it is won", x, -1, () -> x.holds(2));
        CHECK.refused("forced when it is won", x, -1, x::forced);
        CHECK.due("by the first cell alone", Check.lawn("sw6h5;tc1;tc2;bc3").holds(1), 0);
        CHECK.due("by the last cell alone", Check.lawn("sw6h5;tc27;tc28;bc26").holds(1), 0);
        CHECK.due("no answer but those", Check.lawn("sw6h5k1;tc1;tc2;bc3;tc27;tc28;bc26").answers(-1), 0);
        LawnAhead none = Check.lawn("sw1h1;b");
        CHECK.due("nothing grows: one", none.holds(1), 1);
        CHECK.due("nothing grows: two", none.holds(2), 1);
        CHECK.due("nothing forced", none.forced(), -1);
        LawnAhead empty = Check.lawn("sw6h5q2k1");
        CHECK.due("the first tuft can be cut", empty.holds(2), 1);
        CHECK.due("and forces nothing", empty.forced(), -1);
    }

    /** "whether, wherever it GROWS (or SITS), the house can CUT (or SIT) so that it has not WON behind n NIGHTS" */
    private static void holdingTwoNights() {
        LawnAhead far = Check.lawn("sw5h1q2k1u0;tc0");
        CHECK.due("nothing grows beside: no threat", far.holds(1), 1);
        CHECK.due("nor the next night", far.holds(2), 1);
        LawnAhead apart = withLaw("sw6h1q3k1;tc0;tc5", "y:d=0&c=2?1;y:d=1?1");
        CHECK.due("0 and 2: one of them is cut", apart.holds(2), 1);
        LawnAhead two = withLaw("sw6h1q3k1;tc0;tc1;tc4", "y:d=0&c=5?1;y:d=1?1");
        CHECK.due("two pairs, shears of one", two.holds(2), 0);
        CHECK.due("5 forces it", two.forced(), 5);
        String pairs = "sw6h1q3k1;tc0;tc1;tc4;tc5";
        CHECK.due("one cell may grow the next night", withLaw(pairs, "y:d=1&c=2?1").holds(2), 1);
        CHECK.due("two may, of which one is held", withLaw(pairs, "y:d=1?1").holds(2), 0);
        CHECK.due("no cell forces it", withLaw(pairs, "y:d=1?1").forced(), -1);
        CHECK.due("they may the night behind it", withLaw(pairs, "y:d=2?1").holds(2), 1);
        LawnAhead sits = withLaw("sw3h1q2k1;tc0;tc2", "y:d=1?1");
        CHECK.due("it sits, and the next night it wins", sits.holds(2), 0);
        LawnAhead house = withLaw("sw2h1q2;t", "y:d=1&o=0?1");
        CHECK.due("the house had better sit", house.holds(2), 1);
        LawnAhead later = withLaw("sw2h1q2;t", "y:d=2?1");
        CHECK.due("the third night is not asked", later.holds(2), 1);
    }

    /** "FORCED: the least CELL where it MAY GROW by which it is not held for two NIGHTS (this one, the next)." */
    private static void forced() {
        CHECK.due("the winning one itself", Check.lawn("sw6h1k5;tc4;tc3;b").forced(), 2);
        CHECK.due("cell 0", Check.lawn("sw3h1;tc1;tc2").forced(), 0);
        CHECK.due("the last cell", Check.lawn("sw6h5l1u1;tc28;tc27;bc26;bc20;bc21;bc22;bc23").forced(), 29);
        CHECK.due("a lower one behind which two are left", Check.lawn("sw6h1q2k1;tc5").forced(), 0);
    }

    /** "ODDS behind n (0 .. 3) NIGHTS at a chance (0 .. 100) of DROUGHT": "NONE: no LAWN, out of bounds." */
    private static void oddsWithinBounds() {
        LawnAhead x = Check.lawn("sw3h1;tc0;tc1");
        for (int n : new int[] {-1, 4, 5, Integer.MAX_VALUE, Integer.MIN_VALUE}) {
            CHECK.refused("odds(" + n + ", 50)", x, -1, () -> x.odds(n, 50));
        }
        for (int chance : new int[] {-1, 101, 200, Integer.MAX_VALUE, Integer.MIN_VALUE}) {
            CHECK.refused("odds(1, " + chance + ")", x, -1, () -> x.odds(1, chance));
            CHECK.refused("odds(0, " + chance + ")", x, -1, () -> x.odds(0, chance));
        }
        for (int chance = 0; chance <= 100; chance++) {
            long stay = 10000000L * chance;
            CHECK.due("0 nights", x.odds(0, chance), 0);
            CHECK.due("1 night at " + chance, x.odds(1, chance), ALL - stay);
            CHECK.due("2 nights at " + chance, x.odds(2, chance), ALL - stay * chance / 100);
            CHECK.due("3 nights at " + chance, x.odds(3, chance), ALL - stay * chance / 100 * chance / 100);
        }
    }

    /** "the rest by the number of CELLS where it MAY GROW, cut, to each by numbers, what is over to the last (none: all stay)" */
    private static void oddsAreCut() {
        for (int width = 3; width <= 6; width++) {
            boolean wide = width > 3;
            int places = 2 * width - (wide ? 3 : 2);
            int end = 2 * width - 1;
            LawnAhead first = Check.lawn("sw" + width + "h2;tc1;tc2" + (wide ? ";bc3" : ""));
            LawnAhead last = Check.lawn("sw" + width + "h2;tc" + (end - 1) + ";tc" + (end - 2) + (wide ? ";bc" + (end - 3) : ""));
            for (int chance : new int[] {0, 1, 33, 99}) {
                long rest = ALL - 10000000L * chance;
                CHECK.due("the first of " + places + " at " + chance, first.odds(1, chance), rest / places);
                CHECK.due("the last of " + places + " at " + chance, last.odds(1, chance), rest - rest / places * (places - 1));
            }
        }
        CHECK.due("thirty ways", Check.lawn("sw6h5q2").odds(1, 0), 0);
        CHECK.due("none: all stay", Check.lawn("sw2h1;t;bc1").odds(3, 0), 0);
        LawnAhead late = withLaw("sw2h1q2;t", "y:d=2?1");
        CHECK.due("not behind two", late.odds(2, 0), 0);
        CHECK.due("none, none, then all", late.odds(3, 0), ALL);
        CHECK.due("the chance is of the third alone", late.odds(3, 40), 600000000);
        LawnAhead grown = withLaw("sw3h1q3", "y:d=c?1");
        CHECK.due("one a night, each of its day", grown.odds(3, 0), ALL);
        CHECK.due("not behind two of them", grown.odds(2, 0), 0);
        CHECK.due("all three must come", grown.odds(3, 50), 125000000);
        LawnAhead stays = withLaw("sw2h1q2;t", "y:d=1|d=2?1");
        CHECK.due("what stays has its day, too", stays.odds(3, 50), 750000000);
        CHECK.due("and does not grow by a day that is over", withLaw("sw2h1q2;t", "y:d=0?1").odds(2, 50), 500000000);
        CHECK.due("nor what has grown", withLaw("sw3h1q3;t", "y:d=0?1").odds(2, 0), 0);
        LawnAhead earth = Check.lawn("sw4h1;tc0;tc1");
        earth.mole(3);
        CHECK.due("nothing grows on earth", earth.odds(1, 0), ALL);
        LawnAhead other = Check.lawn("sw4h1;tc0;tc1");
        other.odds(1, 0);
        CHECK.due("two ways", other.odds(1, 0), ALL / 2);
    }

    private static PlainLawn plain(String lawn, String law) {
        PlainLawn y = new PlainLawn();
        String[] texts = {lawn, law};
        for (int sort = 0; sort < 2; sort++) {
            for (int from = 0; from < texts[sort].length(); from += 20) {
                int[] n = Check.packed(texts[sort], from);
                y.feed(n[0], n[1], n[2], n[3], n[4]);
            }
            if (y.text(sort) < 0) {
                throw new IllegalArgumentException(texts[sort]);
            }
        }
        y.law(0);
        return y;
    }

    /** "each NIGHT chance by 100 of each, cut, stay as they are": three NIGHTS on lawns that are too wide for the runs by draws */
    private static void oddsOfThreeNights() {
        String[] lawns = {"sw6h5;tc0;tc9", "sw6h5q4;tc7;tc8;tc15;tc29;bc4", "sw5h5q2", "sw6h4q5;tc6;tc7", "sw6h5q4x1;tc24;tc19"};
        String[] laws = {"y:1", "y:t>0|d>0?1", "y:d+c-r", "y:2-t;y:1", "y:o*2-d-t"};
        for (int i = 0; i < lawns.length; i++) {
            LawnAhead x = withLaw(lawns[i], laws[i]);
            PlainLawn y = plain(lawns[i], laws[i]);
            for (int nights = 2; nights <= 3; nights++) {
                for (int chance : new int[] {0, 37}) {
                    CHECK.due(lawns[i] + " " + nights + " nights at " + chance, x.odds(nights, chance), y.odds(nights, chance));
                }
            }
        }
    }

    /** "WHERE a MOLE: the CELL (without BED, EARTH) by which THREATS are the fewest (of several the lowest)": "NONE: no such CELL" */
    private static void where() {
        LawnAhead x = Check.lawn("sw3h1;tc0;tc1");
        CHECK.due("the lowest of three", x.where(0), 0);
        CHECK.due("none then", x.where(1), 0);
        x.mole(0);
        CHECK.due("not on earth", x.where(0), 1);
        x.mole(1);
        CHECK.due("the last", x.where(0), 2);
        x.mole(2);
        CHECK.refused("no such cell", x, -1, () -> x.where(0));
        CHECK.refused("no such cell, no threats", x, -1, () -> x.where(1));
        CHECK.due("beds alone", Check.lawn("sw2h1;b;bc1").where(0), -1);
        CHECK.due("not on a bed", Check.lawn("sw2h1;b").where(0), 1);
        CHECK.due("on the grass that is the threat", Check.lawn("sw6h5;tc3;tc4;bc2;tc8;tc9").where(1), 2);
        CHECK.due("the last cell", Check.lawn("sw2h2q2;tc3;b;bc1;bc2").where(0), 3);
        LawnAhead around = withLaw("sw3h2q3;tc3;tc4;tc0", "y:t>1?1");
        CHECK.due("a mole on a tuft changes what may grow", around.where(1), 0);
    }

    public static void main(String[] args) {
        leavesUpToThree();
        digitsOfLeaves();
        noSuchSet();
        allMovesCanBe();
        cuts();
        whoeversTurn();
        threatsAtTheEdges();
        advice();
        holding();
        holdingTwoNights();
        forced();
        oddsWithinBounds();
        oddsAreCut();
        oddsOfThreeNights();
        where();
        CHECK.finish();
    }
}
