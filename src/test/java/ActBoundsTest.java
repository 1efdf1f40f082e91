import java.math.BigInteger;

/** The bounds of ACTS (Terms 2 to 4, promises 10 to 16, 18, 19, 27, 41, 42): each method is about one sentence of the document. */
public final class ActBoundsTest {
    private static final Check CHECK = new Check();
    private static final int[] FAR = {-2, -100, 30, 31, 32, 33, 64, Integer.MAX_VALUE, Integer.MIN_VALUE, Integer.MIN_VALUE + 1};

    private static void logIs(LawnAhead x, int i, int... due) {
        for (int what = 0; what < 4; what++) {
            CHECK.due("log(" + i + ", " + what + ")", x.log(i, what), due[what]);
        }
    }

    /** "NONE: no such CELL, it may not, not by NIGHT, it is WON." */
    private static void growing() {
        LawnAhead x = Check.lawn("sw4h3u2;tc0;tc2;tc11;bc7");
        x.mole(3);
        for (int cell : new int[] {-1, 12, 13}) {
            CHECK.refused("no such cell " + cell, x, -1, () -> x.grow(cell));
        }
        for (int far : FAR) {
            CHECK.refused("no such cell " + far, x, -1, () -> x.grow(far));
        }
        CHECK.refused("on a tuft", x, -1, () -> x.grow(0));
        CHECK.refused("on a bed", x, -1, () -> x.grow(7));
        CHECK.refused("on earth", x, -1, () -> x.grow(3));
        CHECK.due("two around it", x.grow(5), 0);
        CHECK.refused("not by night", x, -1, () -> x.grow(9));
        x.sit();
        CHECK.refused("three around it, HIGH is 2", x, -1, () -> x.grow(1));
        CHECK.due("it has won by it", x.grow(10), 1);
        CHECK.refused("it is won", x, -1, () -> x.grow(8));
    }

    /** "if there is a LINE then, it has WON": by the first, a middle or the last of it, any of four ways, also of more than q. */
    private static void winning() {
        int[] strides = {1, 6, 7, 5};
        int[] firsts = {6, 1, 0, 5};
        for (int q = 2; q <= 5; q++) {
            for (int way = 0; way < 4; way++) {
                for (int gap = 0; gap < q; gap++) {
                    StringBuilder lawn = new StringBuilder("sw6h5q" + q);
                    for (int i = 0; i < q; i++) {
                        lawn.append(i == gap ? "" : ";tc" + (firsts[way] + i * strides[way]));
                    }
                    LawnAhead x = Check.lawn(lawn.toString());
                    CHECK.due(lawn + ", not elsewhere", x.grow(22), 0);
                    CHECK.due("not won", x.count(8), 0);
                    x.undo();
                    CHECK.due(lawn + ", at the gap", x.grow(firsts[way] + gap * strides[way]), 1);
                    CHECK.due("won", x.count(8), 1);
                }
            }
        }
        LawnAhead more = Check.lawn("sw5h1;tc0;tc1;tc3;tc4");
        CHECK.due("five by a line of three", more.grow(2), 1);
        LawnAhead edge = Check.lawn("sw4h3;tc2;tc3");
        CHECK.due("not over the edge", edge.grow(4), 0);
        LawnAhead corner = Check.lawn("sw4h3;tc3;tc8");
        CHECK.due("not over the corner", corner.grow(1), 0);
        LawnAhead first = Check.lawn("sw2h1q2");
        CHECK.due("one is no line of two", first.grow(0), 0);
        first.sit();
        CHECK.due("two are", first.grow(1), 1);
    }

    /** A LAWN of all TUFTS, wider and higher than no LINE of five needs. */
    private static LawnAhead allTufts(int w, int h, int k) {
        StringBuilder lawn = new StringBuilder("sw" + w + "h" + h + "q5k" + k);
        for (int cell = 0; cell < Math.min(12, w * h); cell++) {
            lawn.append(";tc").append(cell);
        }
        LawnAhead x = Check.lawn(lawn.toString());
        for (int cell = 12; cell < w * h; cell++) {
            x.grow(cell);
            x.sit();
        }
        x.sit();
        return x;
    }

    /** "A CUT: 1 .. k TUFTS from a CELL to the right or down, beside one another": "NONE: no such one" */
    private static void everyCut() {
        for (int w = 1; w <= 4; w++) {
            for (int h = 1; h <= 4; h++) {
                for (int k = 1; k <= 5; k++) {
                    LawnAhead x = allTufts(w, h, k);
                    int cuts = 0;
                    for (int cell = -1; cell <= w * h; cell++) {
                        for (int way = -1; way <= 2; way++) {
                            for (int n = -1; n <= 6; n++) {
                                boolean on = cell >= 0 && cell < w * h && n >= 1 && n <= k
                                    && (way == 0 && cell % w + n <= w || way == 1 && cell / w + n <= h);
                                int before = x.count(1);
                                int got = x.cut(cell, way, n);
                                CHECK.due("cut(" + cell + ", " + way + ", " + n + ") of " + w + " by " + h, got, on ? x.count(6) : -1);
                                CHECK.due("so many go", x.count(1), on ? before - n : before);
                                cuts += on && (n > 1 || way == 0) ? 1 : 0;
                                if (on) {
                                    logIs(x, 0, 1, cell, n == 1 ? 0 : way, n);
                                    x.undo();
                                }
                            }
                        }
                    }
                    CHECK.due("cuts in all of " + w + " by " + h, x.cuts(-1), cuts);
                }
            }
        }
    }

    /** "TUFTS .. beside one another": none over GRASS, BEDS or EARTH. "NONE: no such one, not by DAY, it is WON." */
    private static void cutsRefused() {
        LawnAhead x = Check.lawn("sw5h2k5q5;tc0;tc2;tc3;bc4;tc5;tc7");
        CHECK.refused("not by day", x, -1, () -> x.cut(0, 0, 1));
        x.sit();
        x.mole(5);
        int[][] none = {{1, 0, 1}, {4, 0, 1}, {5, 0, 1}, {0, 0, 2}, {0, 0, 3}, {3, 0, 2}, {0, 1, 2}, {2, 1, 3}, {2, 0, 3}, {2, 2, 1}};
        for (int[] n : none) {
            CHECK.refused("cut(" + n[0] + ", " + n[1] + ", " + n[2] + ")", x, -1, () -> x.cut(n[0], n[1], n[2]));
        }
        for (int far : FAR) {
            CHECK.refused("cell " + far, x, -1, () -> x.cut(far, 0, 1));
            CHECK.refused("way " + far, x, -1, () -> x.cut(0, far, 1));
            CHECK.refused("many " + far, x, -1, () -> x.cut(0, 0, far));
            CHECK.refused("down many " + far, x, -1, () -> x.cut(2, 1, far));
        }
        CHECK.due("two down", x.cut(2, 1, 2), 1);
        CHECK.refused("by night again", x, -1, () -> x.cut(0, 0, 1));
        LawnAhead won = Check.lawn("sw3h1;tc0;tc1");
        won.grow(2);
        CHECK.refused("it is won", won, -1, () -> won.cut(0, 0, 1));
    }

    /** "By DAY the house CUTS, the DAY is one later (0 at first)." By NIGHT, by a MOLE it is not. */
    private static void days() {
        LawnAhead x = Check.lawn("sw3h3x1;tc0;tc1");
        CHECK.due("0 at first", x.count(6), 0);
        x.mole(8);
        CHECK.due("not by a mole", x.count(6), 0);
        CHECK.due("a cut", x.cut(0, 0, 1), 1);
        x.grow(5);
        CHECK.due("not by growing", x.count(6), 1);
        x.sit();
        CHECK.due("by the house's sitting", x.count(6), 2);
        x.sit();
        CHECK.due("not by the lawn's", x.count(6), 2);
        CHECK.due("another cut", x.cut(1, 0, 1), 3);
        x.undo();
        CHECK.due("undone", x.count(6), 2);
    }

    /** "SITS out: THISTLES of that one. NONE: no LAWN, it is WON." */
    private static void sitting() {
        LawnAhead x = Check.lawn("sw3h1;tc0;tc1");
        for (int i = 1; i <= 100; i++) {
            CHECK.due("the lawn", x.sit(), i);
            CHECK.due("by day then", x.count(7), 1);
            CHECK.due("the house", x.sit(), i);
            CHECK.due("by night then", x.count(7), 0);
        }
        CHECK.due("thistles of the lawn", x.count(9), 100);
        CHECK.due("of the house", x.count(10), 100);
        CHECK.due("the day", x.count(6), 100);
        x.grow(2);
        CHECK.refused("it is won", x, -1, x::sit);
    }

    /** "A MOLE: how many TUFTS there are. NONE: no such CELL, BED or EARTH, it is WON." */
    private static void moles() {
        LawnAhead x = Check.lawn("sw3h2;tc0;tc1;bc5");
        CHECK.refused("behind the last", x, -1, () -> x.mole(6));
        CHECK.refused("below the first", x, -1, () -> x.mole(-1));
        for (int far : FAR) {
            CHECK.refused("mole(" + far + ")", x, -1, () -> x.mole(far));
        }
        CHECK.refused("a bed", x, -1, () -> x.mole(5));
        CHECK.due("grass", x.mole(4), 2);
        CHECK.refused("earth", x, -1, () -> x.mole(4));
        CHECK.due("a tuft", x.mole(0), 1);
        CHECK.refused("earth where a tuft was", x, -1, () -> x.mole(0));
        CHECK.due("the last tuft", x.mole(1), 0);
        CHECK.due("no turn by them", x.count(7), 0);
        LawnAhead won = Check.lawn("sw4h1;tc0;tc1");
        won.grow(2);
        CHECK.refused("it is won", won, -1, () -> won.mole(3));
        LawnAhead all = Check.lawn("sw6h5");
        for (int cell = 0; cell < 30; cell++) {
            CHECK.due("all thirty", all.mole(cell), 0);
        }
        CHECK.due("thirty acts", all.count(14), 30);
        CHECK.due("no grass", all.tells(), -1);
    }

    /** "the latest 40 can be UNDONE one by one": "how many still can be. NONE: none." */
    private static void undoFortyTimes() {
        for (int acts : new int[] {0, 1, 39, 40, 41, 42, 80, 81, 120, 200}) {
            LawnAhead x = Check.lawn("s");
            for (int i = 0; i < acts; i++) {
                x.sit();
            }
            int can = Math.min(acts, 40);
            CHECK.due("of " + acts, x.count(14), can);
            for (int left = can - 1; left >= 0; left--) {
                CHECK.due("undo of " + acts, x.undo(), left);
                CHECK.due("count(14)", x.count(14), left);
                CHECK.due("thistles", x.count(9) + x.count(10), acts - can + left);
                CHECK.due("whose turn", x.count(7), (acts - can + left) % 2);
                CHECK.due("the day", x.count(6), (acts - can + left) / 2);
            }
            CHECK.refused("none of " + acts, x, -1, x::undo);
            x.sit();
            CHECK.due("one again", x.undo(), 0);
            CHECK.refused("and none again", x, -1, x::undo);
        }
    }

    /** "LOG: what was done (the latest 60)": "HIDDEN: no such ones." */
    private static void logOfSixty() {
        LawnAhead x = Check.lawn("sw6h5");
        CHECK.refused("empty", x, LawnAhead.HIDDEN, () -> x.log(0, 0));
        for (int acts = 1; acts <= 130; acts++) {
            boolean mole = acts <= 30;
            if (mole) {
                x.mole(acts - 1);
            } else {
                x.sit();
            }
            int many = Math.min(acts, 60);
            CHECK.due("how long behind " + acts, x.count(13), many);
            logIs(x, 0, mole ? 2 : 3, mole ? acts - 1 : -1, 0, 0);
            int oldest = acts - many;
            logIs(x, many - 1, oldest < 30 ? 2 : 3, oldest < 30 ? oldest : -1, 0, 0);
            CHECK.due("behind the oldest", x.log(many, 0), LawnAhead.HIDDEN);
        }
        for (int n : new int[] {-1, 60, 61, 100, 129, Integer.MAX_VALUE, Integer.MIN_VALUE}) {
            CHECK.refused("log(" + n + ", 0)", x, LawnAhead.HIDDEN, () -> x.log(n, 0));
        }
        for (int n : new int[] {-1, 4, 5, Integer.MAX_VALUE, Integer.MIN_VALUE}) {
            CHECK.refused("log(0, " + n + ")", x, LawnAhead.HIDDEN, () -> x.log(0, n));
        }
    }

    /** "The latest ACT is UNDONE (the LOG, too)": it is what was done then, the latest 60 of it. */
    private static void undoneLog() {
        LawnAhead x = Check.lawn("sw6h5");
        for (int cell = 0; cell < 30; cell++) {
            x.mole(cell);
        }
        for (int i = 0; i < 31; i++) {
            x.sit();
        }
        logIs(x, 59, 2, 1, 0, 0);
        x.undo();
        CHECK.due("sixty were done", x.count(13), 60);
        logIs(x, 59, 2, 0, 0, 0);
        x.undo();
        CHECK.due("fifty-nine", x.count(13), 59);
        logIs(x, 58, 2, 0, 0, 0);
        CHECK.due("no more", x.log(59, 0), LawnAhead.HIDDEN);
        x.sit();
        CHECK.due("sixty again", x.count(13), 60);
        logIs(x, 0, 3, -1, 0, 0);
        logIs(x, 30, 2, 29, 0, 0);
    }

    /** What an ACT changed is as it was when it is UNDONE: WON, EARTH, TUFTS, turn. */
    private static void undoneAsItWas() {
        LawnAhead x = Check.lawn("sw4h2;tc0;tc1;tc4");
        String first = Check.seen(x);
        x.mole(0);
        x.undo();
        CHECK.due("a mole on a tuft", Check.seen(x).equals(first), true);
        x.grow(2);
        x.undo();
        CHECK.due("the win", Check.seen(x).equals(first), true);
        x.grow(7);
        String second = Check.seen(x);
        x.cut(0, 1, 2);
        x.undo();
        CHECK.due("a cut down", Check.seen(x).equals(second), true);
        x.sit();
        x.undo();
        CHECK.due("the house's sitting", Check.seen(x).equals(second), true);
        x.undo();
        CHECK.due("it meant well", Check.seen(x).equals(first), true);
    }

    private static long seed;

    /** A draw by whole numbers of any size, cut to 64 bits. */
    private static int draw(int m) {
        BigInteger two64 = BigInteger.ONE.shiftLeft(64);
        BigInteger x = BigInteger.valueOf(seed).mod(two64).multiply(new BigInteger("6364136223846793005"))
            .add(new BigInteger("1442695040888963407")).mod(two64);
        seed = x.longValue();
        return x.shiftRight(33).mod(BigInteger.valueOf(m)).intValue();
    }

    /** "x .. becomes x times 6364136223846793005 and 1442695040888963407 (64 bits, going round); a draw of m: .. without sign" */
    private static void drawsGoRound() {
        for (long first : new long[] {0, 1, -1, 2, 7, Long.MAX_VALUE, Long.MIN_VALUE, 1L << 32, 1L << 33, -1L << 40, 123456789012345L}) {
            LawnAhead x = Check.lawn("sw6h5q5;bc3;bc17");
            x.games(12, first);
            seed = first;
            for (int night = 0; night < 12; night++) {
                draw(100);
                int n = draw(28);
                int cell = n < 3 ? n : n + 1 < 17 ? n + 1 : n + 2;
                int at = 2 * (11 - night);
                logIs(x, at + 1, 0, cell, 0, 0);
                logIs(x, at, 1, cell, 0, 1);
            }
        }
    }

    /** "a draw of 100 below DROUGHT": one below is, the same is not. */
    private static void drawBelowDrought() {
        boolean[] both = new boolean[2];
        for (long first = 0; first < 400; first++) {
            seed = first;
            int drawn = draw(100);
            for (int drought = Math.max(0, drawn - 1); drought <= Math.min(99, drawn + 1); drought++) {
                LawnAhead x = Check.lawn("sw2h2");
                x.drought(drought);
                x.games(1, first);
                boolean dry = drawn < drought;
                both[dry ? 1 : 0] = true;
                logIs(x, 1, dry ? 3 : 0, dry ? -1 : x.log(1, 1), 0, 0);
                CHECK.due("thistles of the lawn", x.count(9), dry ? 1 : 0);
                CHECK.due("none to cut: the house sits", x.count(10), dry ? 1 : 0);
            }
        }
        CHECK.due("both came", both[0] && both[1], true);
    }

    /** "or no CELL that MAY GROW: the lawn SITS": no draw of how many is made then. */
    private static void noCellInGames() {
        LawnAhead x = Check.lawn("sw1h2");
        Check.tell(x, 1, "y:d>1&d<4?1");
        x.law(0);
        x.games(5, 99);
        seed = 99;
        for (int day = 0; day < 5; day++) {
            draw(100);
            boolean grows = day > 1 && day < 4;
            int cell = grows ? draw(2) : -1;
            logIs(x, 2 * (4 - day) + 1, grows ? 0 : 3, cell, 0, 0);
        }
    }

    /** "n (1 .. 30) NIGHTS": "the DAY. NONE: no LAWN, out of bounds, it is WON." */
    private static void nights() {
        for (int n = 1; n <= 30; n++) {
            LawnAhead x = Check.lawn("sw1h1;b");
            CHECK.due("the day behind " + n, x.games(n, 4), n);
            CHECK.due("two acts a night", x.count(9) + x.count(10), 2 * n);
            CHECK.due("the log", x.count(13), 2 * n);
            CHECK.due("undo", x.count(14), Math.min(40, 2 * n));
            LawnAhead day = Check.lawn("sw1h1x1;b");
            CHECK.due("by day the house sits first", day.games(n, 4), n + 1);
            CHECK.due("its thistles", day.count(10), n + 1);
        }
        LawnAhead x = Check.lawn("sw3h3;tc0");
        for (int n : new int[] {0, 31, -1, 32, 100, Integer.MAX_VALUE, Integer.MIN_VALUE}) {
            CHECK.refused("games(" + n + ", 1)", x, -1, () -> x.games(n, 1));
        }
        LawnAhead won = Check.lawn("sw2h1q2;t");
        CHECK.due("won in the first night", won.games(30, 1), 0);
        CHECK.due("the one act", won.count(13), 1);
        CHECK.refused("it is won", won, -1, () -> won.games(1, 1));
    }

    /** "then the house CUTS by ADVICE (none: SITS), if it is not WON" */
    private static void houseInGames() {
        LawnAhead x = Check.lawn("sw5h5q5k3l3;tc6;tc7;tc8;tc17;tc22");
        Check.tell(x, 1, "y:0");
        x.law(0);
        int advice = x.advice(0);
        CHECK.due("two threes, the least of them", advice, 603);
        x.games(1, 5);
        logIs(x, 0, 1, 6, 0, 3);
        CHECK.due("then down", x.advice(0), 1712);
        x.games(1, 5);
        logIs(x, 0, 1, 17, 1, 2);
        x.games(1, 5);
        logIs(x, 0, 3, -1, 0, 0);
        CHECK.due("both sat", x.count(9) * 10 + x.count(10), 31);
    }

    /** "RUN of a GAME (apart): behind how many MOVES the first is that can't be" (NONE: all can be). */
    private static void firstThatCannotBe() {
        String[] games = {"g0", "c0r1", "x;g0", "x;c0r1", "x;c4r1", "x;c4r2", "x;c4d1", "m9", "m8;m8", "m8;g8", "m4;x;c4r1", "g9", "m29",
            "g4", "g0;g1", "x;x;x;x;x;x;x;x;x;x;x;x;x;x;x;x", "g0;x;g8", "g0;x;g8;x", "g0;x;g8;m1", "g0;x;g8;g1", "g?;x;g?;x;g?",
            "g0;x;g1;x;g3;m0", "m0;m1;m2;m3;m5;m6;m7;m8;g?", "m0;m1;m2;m3;m5;m6;m7;m8;x;x;g?", "x;g?", "x;c4r1;x;c4r1"};
        int[] due = {-1, 0, 1, 1, -1, 1, -1, 0, 1, 1, 2, 0, 0, 0, 1, -1, -1, 3, 3, 3, -1, -1, 8, 10, 1, 3};
        for (int i = 0; i < games.length; i++) {
            LawnAhead x = Check.lawn("sw3h3;tc4");
            Check.tell(x, 2, games[i]);
            CHECK.refused("run of " + games[i], x, due[i], () -> x.run(0));
            int all = games[i].split(";").length;
            CHECK.due("done of " + games[i], x.perform(0), due[i] < 0 ? all : due[i]);
            CHECK.due("as acts", x.count(14), due[i] < 0 ? all : due[i]);
        }
    }

    /** "HIDDEN: no such GAME, no LAWN.", "NONE: no such GAME, no LAWN." */
    private static void noSuchGame() {
        LawnAhead x = Check.lawn("s");
        for (int games = 0; games <= 4; games++) {
            int none = games;
            CHECK.refused("run(" + none + ")", x, LawnAhead.HIDDEN, () -> x.run(none));
            CHECK.refused("perform(" + none + ")", x, -1, () -> x.perform(none));
            Check.tell(x, 2, "x");
        }
        for (int far : FAR) {
            CHECK.refused("run(" + far + ")", x, LawnAhead.HIDDEN, () -> x.run(far));
            CHECK.refused("perform(" + far + ")", x, -1, () -> x.perform(far));
        }
        CHECK.refused("run(-1)", x, LawnAhead.HIDDEN, () -> x.run(-1));
        CHECK.refused("perform(-1)", x, -1, () -> x.perform(-1));
    }

    /** "a missing leaf is the lowest CELL that MAY GROW" */
    private static void lowestLeaf() {
        LawnAhead x = Check.lawn("sw3h2q3;tc0;bc1");
        Check.tell(x, 1, "y:c>0&!t=2?1");
        x.law(0);
        Check.tell(x, 2, "m4;g?;x;g?");
        CHECK.due("run", x.run(0), -1);
        CHECK.due("done", x.perform(0), 4);
        logIs(x, 2, 0, 2, 0, 0);
        logIs(x, 0, 0, 5, 0, 0);
        CHECK.due("no cell any more", x.run(0), 0);
        LawnAhead first = Check.lawn("sw6h5");
        Check.tell(first, 2, "g?");
        first.perform(0);
        logIs(first, 0, 0, 0, 0, 0);
        LawnAhead last = Check.lawn("sw6h5");
        Check.tell(last, 1, "y:r=4&c=5?1");
        last.law(0);
        Check.tell(last, 2, "g?");
        last.perform(0);
        logIs(last, 0, 0, 29, 0, 0);
    }

    /** "MEANT WELL: how often it GREW so far .. without having WON by it, though there was a THREAT just then." */
    private static void meantWell() {
        LawnAhead x = Check.lawn("sw6h2;tc0;tc1");
        for (int i = 1; i <= 5; i++) {
            CHECK.due("grew elsewhere", x.grow(11 - i % 2), 0);
            CHECK.due("meant well", x.meant(), i);
            x.cut(11 - i % 2, 0, 1);
        }
        x.mole(2);
        x.mole(6);
        x.mole(7);
        x.mole(8);
        CHECK.due("no threat now", x.threats(), 0);
        x.grow(5);
        CHECK.due("not without a threat", x.meant(), 5);
        LawnAhead ends = Check.lawn("sw6h5;tc1;tc2;bc3");
        ends.grow(20);
        CHECK.due("a threat at the first cell alone", ends.meant(), 1);
        LawnAhead other = Check.lawn("sw6h5;tc27;tc28;bc26");
        other.grow(0);
        CHECK.due("a threat at the last cell alone", other.meant(), 1);
        LawnAhead y = Check.lawn("sw4h1;tc0;tc1");
        y.image();
        y.games(1, 3);
        CHECK.due("in games by a seed, too", y.meant(), y.count(8) == 1 ? 0 : 1);
        y.back();
        Check.tell(y, 2, "g3;c0r1");
        y.run(0);
        CHECK.due("not apart", y.meant(), 0);
        y.perform(0);
        CHECK.due("by a game's moves, too", y.meant(), 1);
        Check.tell(y, 0, "sw4h1;tc0;tc1");
        CHECK.due("since the lawn was told", y.meant(), 0);
    }

    /** "An IMAGE keeps TUFTS, EARTH, whose turn it is, WON, the DAY, THISTLES, how often it MEANT WELL, the LOG" */
    private static void imageKeepsAll() {
        LawnAhead x = Check.lawn("sw4h2;tc0;tc1");
        x.mole(7);
        x.sit();
        x.sit();
        x.grow(6);
        x.cut(6, 0, 1);
        String[] kept = seenOf(x);
        CHECK.due("image", x.image(), 2);
        x.grow(2);
        CHECK.due("won", x.count(8), 1);
        CHECK.due("back from a won lawn", x.back(), 2);
        CHECK.due("all is as it was", same(kept, seenOf(x)), true);
        x.mole(0);
        x.sit();
        x.sit();
        x.sit();
        CHECK.due("back once more", x.back(), 2);
        CHECK.due("all is as it was again", same(kept, seenOf(x)), true);
        CHECK.due("no act can be undone then", x.count(14), 0);
        CHECK.refused("undo", x, -1, x::undo);
        x.grow(2);
        CHECK.due("an image of a won lawn", x.image(), 2);
        x.undo();
        CHECK.due("not won", x.count(8), 0);
        CHECK.due("instead of the one ahead", x.back(), 2);
        CHECK.due("won again", x.count(8), 1);
        CHECK.refused("and can't be undone", x, -1, x::undo);
    }

    private static String[] seenOf(LawnAhead x) {
        return Check.seen(x).split(" ");
    }

    /** Alike but for how many ACTS can be UNDONE. */
    private static boolean same(String[] one, String[] other) {
        int apart = 0;
        for (int i = 0; i < one.length; i++) {
            apart += one[i].equals(other[i]) ? 0 : 1;
        }
        return one.length == other.length && apart <= 1;
    }

    /** "NONE: no IMAGE of this LAWN." */
    private static void imageOfThisLawn() {
        LawnAhead x = Check.lawn("s");
        CHECK.refused("none yet", x, -1, x::back);
        x.image();
        CHECK.due("an image", x.back(), 0);
        Check.tell(x, 0, "s");
        CHECK.refused("of the lawn before", x, -1, x::back);
        x.sit();
        x.sit();
        CHECK.due("an image of this one", x.image(), 1);
        Check.tape(x, "sw7");
        x.text(0);
        CHECK.due("a wrong lawn leaves it", x.back(), 1);
    }

    /** A LOG in an IMAGE: all 60, and those that come to light again. */
    private static void imageOfALongLog() {
        LawnAhead x = Check.lawn("sw6h5");
        for (int cell = 0; cell < 30; cell++) {
            x.mole(cell);
        }
        x.games(16, 1);
        CHECK.due("sixty", x.count(13), 60);
        logIs(x, 59, 2, 2, 0, 0);
        x.image();
        x.games(30, 1);
        logIs(x, 59, 3, -1, 0, 0);
        x.back();
        CHECK.due("sixty then", x.count(13), 60);
        logIs(x, 59, 2, 2, 0, 0);
        x.sit();
        logIs(x, 59, 2, 3, 0, 0);
        x.undo();
        logIs(x, 59, 2, 2, 0, 0);
        Check.tell(x, 0, "s");
        CHECK.due("of another lawn none", x.count(13), 0);
    }

    public static void main(String[] args) {
        growing();
        winning();
        everyCut();
        cutsRefused();
        days();
        sitting();
        moles();
        undoFortyTimes();
        logOfSixty();
        undoneLog();
        undoneAsItWas();
        drawsGoRound();
        drawBelowDrought();
        noCellInGames();
        nights();
        houseInGames();
        firstThatCannotBe();
        noSuchGame();
        lowestLeaf();
        meantWell();
        imageKeepsAll();
        imageOfThisLawn();
        imageOfALongLog();
        CHECK.finish();
    }
}
