/** The bounds of growing (Terms 1 and 2, promises 1, 6 to 9, 39, 40): each method is about one sentence of the document. */
public final class GrowBoundsTest {
    private static final Check CHECK = new Check();
    private static final int[] FAR = {-2, 30, 31, 32, 33, 64, 1 << 20, Integer.MAX_VALUE, Integer.MIN_VALUE, Integer.MIN_VALUE + 1};

    /** "LawnAhead(): No LAWN." */
    private static void noLawn() {
        LawnAhead x = new LawnAhead();
        for (int i = -1; i <= 6; i++) {
            int n = i;
            CHECK.refused("rule(" + n + ")", x, -1, () -> x.rule(n));
            CHECK.dueThrows("cell(" + n + ", 0)", () -> x.cell(n, 0));
            CHECK.refused("grow(" + n + ")", x, -1, () -> x.grow(n));
            CHECK.refused("mole(" + n + ")", x, -1, () -> x.mole(n));
            CHECK.refused("cut(" + n + ", 0, 1)", x, -1, () -> x.cut(n, 0, 1));
            CHECK.refused("sit()", x, -1, x::sit);
            CHECK.refused("games(" + n + ", 5)", x, -1, () -> x.games(n, 5));
            CHECK.refused("book(" + n + ", false)", x, -1, () -> x.book(n, false));
            CHECK.refused("log(" + n + ", 0)", x, LawnAhead.HIDDEN, () -> x.log(n, 0));
            CHECK.refused("run(" + n + ")", x, LawnAhead.HIDDEN, () -> x.run(n));
            CHECK.refused("perform(" + n + ")", x, -1, () -> x.perform(n));
            CHECK.refused("missing(" + n + ", 0, -1)", x, -1, () -> x.missing(n, 0, -1));
            CHECK.refused("cuts(" + n + ")", x, -1, () -> x.cuts(n));
            CHECK.refused("answers(" + n + ")", x, -1, () -> x.answers(n));
            CHECK.refused("advice(" + n + ")", x, -1, () -> x.advice(n));
            CHECK.refused("holds(" + n + ")", x, -1, () -> x.holds(n));
            CHECK.refused("parts(" + n + ")", x, -1, () -> x.parts(n));
            CHECK.refused("sumOf(" + n + ")", x, LawnAhead.HIDDEN, () -> x.sumOf(n));
            CHECK.refused("fit(" + n + ")", x, -1, () -> x.fit(n));
            CHECK.refused("alike(" + n + ")", x, -1, () -> x.alike(n));
            CHECK.refused("odds(" + n + ", 50)", x, -1, () -> x.odds(n, 50));
            CHECK.refused("where(" + n + ")", x, -1, () -> x.where(n));
        }
    }

    /** Without a LAWN a GAME can be told, but not RUN, DONE or filled. */
    private static void noLawnButGames() {
        LawnAhead x = new LawnAhead();
        Check.tell(x, 2, "x");
        CHECK.refused("run", x, LawnAhead.HIDDEN, () -> x.run(0));
        CHECK.refused("perform", x, -1, () -> x.perform(0));
        CHECK.refused("missing", x, -1, () -> x.missing(0, 0, -1));
        CHECK.refused("undo", x, -1, x::undo);
        CHECK.refused("threats", x, -1, x::threats);
        CHECK.refused("forced", x, -1, x::forced);
        CHECK.refused("meant", x, -1, x::meant);
        CHECK.refused("winning", x, -1, x::winning);
        CHECK.refused("fewest", x, -1, x::fewest);
        CHECK.refused("tells", x, -1, x::tells);
        CHECK.refused("openings", x, -1, x::openings);
        CHECK.refused("room", x, -1, x::room);
        CHECK.refused("longest", x, -1, x::longest);
        CHECK.refused("image", x, -1, x::image);
        CHECK.refused("back", x, -1, x::back);
        Check.tell(x, 0, "sw9");
        CHECK.refused("nor by a wrong text", x, -1, x::room);
        CHECK.due("its tape", x.count(4), 3);
    }

    /** "The RULES: 0 WIDTH, .. 5 HIGH. NONE: no LAWN, no such what." */
    private static void rules() {
        LawnAhead x = Check.lawn("sw1h2q4k5l6u7x1");
        int[] told = {1, 2, 4, 5, 6, 7};
        for (int what = 0; what < 6; what++) {
            CHECK.due("rule(" + what + ")", x.rule(what), told[what]);
        }
        CHECK.refused("who is first is no what", x, -1, () -> x.rule(6));
        CHECK.refused("rule(-1)", x, -1, () -> x.rule(-1));
        for (int far : FAR) {
            CHECK.refused("rule(" + far + ")", x, -1, () -> x.rule(far));
        }
        int[][] edges = {{6, 5, 5, 5, 8, 8}, {1, 1, 2, 1, 0, 0}};
        for (int[] edge : edges) {
            LawnAhead y = Check.lawn("sw" + edge[0] + "h" + edge[1] + "q" + edge[2] + "k" + edge[3] + "l" + edge[4] + "u" + edge[5]);
            for (int what = 0; what < 6; what++) {
                CHECK.due("at its edge rule(" + what + ")", y.rule(what), edge[what]);
            }
        }
    }

    /** "x who is first (0 NIGHT, 1 DAY; 0)" */
    private static void whoIsFirst() {
        CHECK.due("without", Check.lawn("s").count(7), 0);
        CHECK.due("x0", Check.lawn("sx0").count(7), 0);
        CHECK.due("x1", Check.lawn("sx1").count(7), 1);
        CHECK.due("x01", Check.lawn("sx01").count(7), 1);
        LawnAhead x = Check.lawn("sx1");
        Check.tell(x, 0, "t");
        CHECK.due("not of the other lawn", x.count(7), 0);
    }

    /** "NoSuchElementException: no such ones." */
    private static void noSuchCells() {
        for (String size : new String[] {"sw1h1", "sw5h4", "sw6h5", "sw6h1", "sw1h5"}) {
            LawnAhead x = Check.lawn(size);
            int cells = x.count(0);
            String before = Check.seen(x);
            for (int what = -1; what <= 3; what++) {
                int asked = what;
                CHECK.dueThrows(size + " behind the last", () -> x.cell(cells, asked));
                CHECK.dueThrows(size + " below the first", () -> x.cell(-1, asked));
                for (int far : FAR) {
                    CHECK.dueThrows(size + " cell " + far, () -> x.cell(far, asked));
                    CHECK.dueThrows(size + " what " + far, () -> x.cell(0, far));
                }
            }
            for (int cell = 0; cell < cells; cell++) {
                int at = cell;
                CHECK.dueThrows("what -1", () -> x.cell(at, -1));
                CHECK.dueThrows("what 3", () -> x.cell(at, 3));
                CHECK.due("grass", x.cell(cell, 0) + x.cell(cell, 1) + x.cell(cell, 2), 1);
            }
            CHECK.due(size + ": what is thrown changes nothing", Check.seen(x).equals(before), true);
        }
        LawnAhead smaller = Check.lawn("sw6h5");
        Check.tell(smaller, 0, "sw2h2");
        CHECK.dueThrows("a cell of the lawn before", () -> smaller.cell(4, 0));
    }

    /** "AROUND: the up to eight CELLS beside it, over corners, too.", not over an edge of the LAWN. */
    private static void around() {
        for (int w = 1; w <= 6; w++) {
            for (int h = 1; h <= 5; h++) {
                for (int tuft = 0; tuft < w * h; tuft++) {
                    LawnAhead x = Check.lawn("sw" + w + "h" + h + ";tc" + tuft);
                    for (int cell = 0; cell < w * h; cell++) {
                        boolean beside = Math.abs(cell % w - tuft % w) <= 1 && Math.abs(cell / w - tuft / w) <= 1 && cell != tuft;
                        CHECK.due(w + " by " + h + ": " + tuft + " around " + cell, x.cell(cell, 1), beside ? 1 : 0);
                    }
                }
            }
        }
    }

    /** All eight AROUND, none AROUND, of every sort of CELL. */
    private static void eightAround() {
        LawnAhead x = Check.lawn("sw3h3q5;tc0;tc1;tc2;tc3;tc5;tc6;tc7;tc8");
        CHECK.due("eight", x.cell(4, 1), 8);
        CHECK.due("HIGH is 8 without", x.cell(4, 2), 1);
        CHECK.due("a corner", x.cell(0, 1), 2);
        CHECK.due("a side", x.cell(1, 1), 4);
        x.mole(4);
        CHECK.due("of earth, too", x.cell(4, 1), 8);
        x.mole(0);
        CHECK.due("one lost", x.cell(4, 1), 7);
        CHECK.due("of a bed, too", Check.lawn("sw2h1;t;bc1").cell(1, 1), 1);
        CHECK.due("alone on the lawn", Check.lawn("sw1h1;t").cell(0, 1), 0);
        LawnAhead law = Check.lawn("sw3h3q5;tc0;tc1;tc2;tc3;tc5;tc6;tc7;tc8");
        Check.tell(law, 1, "y:t=8&o=8?1");
        law.law(0);
        CHECK.due("t and o of eight", law.room(), 1);
        LawnAhead beds = Check.lawn("sw3h3;bc0;bc1;bc2;bc3;bc5;bc6;bc7;bc8");
        Check.tell(beds, 1, "y:b=8&t=0&o=0?1");
        beds.law(0);
        CHECK.due("b of eight", beds.room(), 1);
    }

    /** "TUFTS AROUND are LOW .. HIGH": both bounds are within. */
    private static void lowToHigh() {
        for (int low = 0; low <= 8; low++) {
            for (int high = low; high <= 8; high++) {
                StringBuilder lawn = new StringBuilder("sw3h3q5l" + low + "u" + high);
                int[] ring = {0, 1, 2, 3, 5, 6, 7, 8};
                for (int many = 0; many <= 8; many++) {
                    LawnAhead x = Check.lawn(lawn.toString());
                    CHECK.due(many + " of " + low + " to " + high, x.cell(4, 2), many >= low && many <= high ? 1 : 0);
                    if (many < 8) {
                        lawn.append(";tc").append(ring[many]);
                    }
                }
            }
        }
    }

    /** "WORTH .. is above 0": not 0, not below. "0 without (a CLAUSE that holds)". */
    private static void worthAboveNothing() {
        laws("y:0", 0, "y:1", 1, "y:0-1", 0, "y:0-9999*9999", 0, "y:9999*9999", 1, "y:0/5", 0, "y:1=2?1", 0, "y:1=2?1;y:2=3?1", 0,
            "y:1=2?1;y:1", 1, "y:1=1?0;y:1", 0, "y:1=1?0-1;y:1", 0, "y:1=1?1;y:0", 1);
    }

    /** "Behind each sign numbers are within -1,000,000 .. 1,000,000" */
    private static void numbersWithin() {
        String million = "1000*1000";
        laws("y:" + million + "=" + million + "+0?1", 1, "y:" + million + "-1<" + million + "?1", 1,
            "y:" + million + "+1=" + million + "?1", 1, "y:" + million + "+1-1=" + million + "-1?1", 1,
            "y:[" + million + "+1]-[" + million + "]", 0, "y:1001*1000=" + million + "?1", 1, "y:999*1001=9999*100+99?1", 1,
            "y:0-" + million + "-1=0-" + million + "?1", 1, "y:0-" + million + "-1+1=0-" + million + "+1?1", 1,
            "y:[0-1001]*1000=[0-1000]*1000?1", 1, "y:[0-1001]*[0-1000]=" + million + "?1", 1,
            "y:9999*9999*9999*9999=" + million + "?1", 1, "y:[0-9999]*9999*9999=0-" + million + "?1", 1,
            "y:9999*9999*0=0?1", 1, "y:9999*9999/1000=1000?1", 1, "y:[0-9999*9999]/1000=0-1000?1", 1,
            "y:" + million + "+" + million + "=" + million + "?1", 1, "y:0-" + million + "-" + million + "=0-" + million + "?1", 1,
            "y:" + million + "+" + million + "-" + million, 0, "y:" + million + "-" + million + "+1", 1,
            "y:9999*101-9999*100=1000*1000-9999*100?1", 1);
    }

    /** "/ cuts towards 0, by 0 gives 0" */
    private static void dividing() {
        laws("y:7/2=3?1", 1, "y:[0-7]/2=0-3?1", 1, "y:7/[0-2]=0-3?1", 1, "y:[0-7]/[0-2]=3?1", 1, "y:1/2=0?1", 1, "y:[0-1]/2=0?1", 1,
            "y:6/3=2?1", 1, "y:9999/1=9999?1", 1, "y:0/7=0?1", 1, "y:7/0=0?1", 1, "y:[0-7]/0=0?1", 1, "y:0/0=0?1", 1,
            "y:7/[3-3]+1", 1, "y:7/t+2", 1, "y:7/0*5=0?1", 1, "y:100/7/2=7?1", 1, "y:100/[7/2]=33?1", 1, "y:[0-1000*1000]/[0-1]=1000*1000?1", 1);
    }

    /** "= < >" at their bounds, "TRUTHS with | between", "UNITS with & between", "! UNIT". */
    private static void conditions() {
        laws("y:2<2?1", 0, "y:2<3?1", 1, "y:3<2?1", 0, "y:2>2?1", 0, "y:3>2?1", 1, "y:2>3?1", 0, "y:2=2?1", 1, "y:2=3?1", 0,
            "y:!2=2?1", 0, "y:!2=3?1", 1, "y:!!2=2?1", 1, "y:!!!2=2?1", 0, "y:!!!!!!2=2?1", 1,
            "y:1=1|1=1&1=2?1", 1, "y:1=2&1=1|1=1?1", 1, "y:(1=1|1=1)&1=2?1", 0, "y:1=2|1=2|1=1?1", 1, "y:1=1&1=1&1=2?1", 0,
            "y:!1=2&1=1?1", 1, "y:!1=1|1=1?1", 1, "y:!(1=1|1=1)?1", 0, "y:!1=2&1=2?1", 0, "y:!(1=2&1=2)?1", 1,
            "y:1<2&2>1|1=2&2=1?1", 1, "y:2<3=1?1", -1, "y:!1<2?1", 0, "y:!2>1?1", 0, "y:!(1=1&2=2)?1", 0, "y:!(1=1|2=2)?1", 0,
            "y:1=2&(1=1)?1", 0, "y:1=1&(1=2)?1", 0, "y:1=2|(1=2)?1", 0, "y:1=2|(1=1&1=2)?1", 0, "y:1=2&(1=1|1=1)?1", 0,
            "y:(1=1)&(1=1)&(1=2)?1", 0, "y:1=2&(1=1&(1=1))?1", 0, "y:1=2&!(1=2)?1", 0);
    }

    /** Whether the one CELL MAY GROW by a LAW; -1: it is no LAW. */
    private static void laws(Object... rows) {
        for (int i = 0; i < rows.length; i += 2) {
            LawnAhead x = Check.lawn("sw1h1");
            boolean told = Check.tell(x, 1, (String) rows[i]) == 0 && x.law(0);
            CHECK.due("grass by " + rows[i], told ? x.cell(0, 2) : -1, (Integer) rows[i + 1]);
        }
    }

    /** "letters: t .. , r its ROW, c its column, b .. , d the DAY, o .." at the edges of the largest LAWN. */
    private static void lettersAtTheEdges() {
        LawnAhead x = Check.lawn("sw6h5");
        for (String law : new String[] {"y:r=0&c=0?1", "y:r=4&c=5?1", "y:r=0&c=5?1", "y:r=4&c=0?1"}) {
            Check.tell(x, 1, law);
        }
        int[] corners = {0, 29, 5, 24};
        for (int law = 0; law < 4; law++) {
            x.law(law);
            CHECK.due("one corner", x.room(), 1);
            CHECK.due("it is " + corners[law], x.cell(corners[law], 2), 1);
        }
        LawnAhead y = Check.lawn("sw1h5");
        Check.tell(y, 1, "y:r-3");
        Check.tell(y, 1, "y:c");
        Check.tell(y, 1, "y:d-2");
        y.law(0);
        CHECK.due("the last row", y.room(), 1);
        y.law(1);
        CHECK.due("no column but 0", y.room(), 0);
        y.law(2);
        for (int day = 0; day < 5; day++) {
            CHECK.due("day " + day, y.room(), day > 2 ? 5 : 0);
            y.sit();
            CHECK.due("the same by day", y.room(), day > 2 ? 5 : 0);
            y.sit();
        }
    }

    /** As many TUFTS as there can be: 23 without a LINE of five, eight of them AROUND each of three CELLS. */
    private static void manyTufts() {
        int bare = Check.bits(0, 1, 5, 9, 13, 22, 26);
        StringBuilder lawn = new StringBuilder("sw6h5q5");
        int told = 0;
        for (int cell = 0; cell < 30 && told < 12; cell++) {
            if ((bare >> cell & 1) == 0) {
                lawn.append(";tc").append(cell);
                told++;
            }
        }
        LawnAhead x = Check.lawn(lawn.toString());
        for (int cell = 0; cell < 30; cell++) {
            if ((bare >> cell & 1) == 0 && x.cell(cell, 0) == 0) {
                x.grow(cell);
                x.sit();
            }
        }
        CHECK.due("23 tufts", x.count(1), 23);
        CHECK.due("not won", x.count(8), 0);
        CHECK.due("room by LOW and HIGH", x.room(), 7);
        Check.tell(x, 1, "y:t=8&o=23?1");
        Check.tell(x, 1, "y:o-22");
        Check.tell(x, 1, "y:o-23");
        x.law(0);
        CHECK.due("eight around", x.room(), 3);
        CHECK.due("at 13", x.cell(13, 2), 1);
        x.law(1);
        CHECK.due("more than 22", x.room(), 7);
        x.law(2);
        CHECK.due("no more than 23", x.room(), 0);
        Check.tell(x, 1, "y:t=8&d<9999?1");
        x.law(3);
        for (int day = 0; day < 5; day++) {
            CHECK.due("eight around, by a day", x.room(), 3);
            x.sit();
            x.sit();
        }
        x.law(0);
        CHECK.due("the 24th", x.grow(22) >= 0, true);
        x.law(2);
        CHECK.due("more than 23", x.room(), 6);
        CHECK.due("its bits", Integer.bitCount(x.count(15)), 24);
    }

    /** The same CELL and as many TUFTS, but not AROUND it: WORTH is that of now. */
    private static void worthOfNow() {
        LawnAhead x = Check.lawn("sw5h1x1;tc0");
        Check.tell(x, 1, "y:c=4?1;y:t");
        x.law(0);
        CHECK.due("one around", x.cell(1, 2), 1);
        CHECK.due("none around", x.cell(3, 2), 0);
        x.cut(0, 0, 1);
        CHECK.due("none at all", x.room(), 1);
        x.grow(4);
        CHECK.due("none around now", x.cell(1, 2), 0);
        CHECK.due("one around now", x.cell(3, 2), 1);
        Check.tell(x, 0, "sw5h1;tc2;bc0");
        CHECK.due("of another lawn", x.room(), 3);
    }

    /** "d the DAY": of now, as it goes on, is UNDONE and looked ahead at. */
    private static void dayOfNow() {
        LawnAhead x = Check.lawn("sw2h1");
        Check.tell(x, 1, "y:d=1|d=6|d=20?1");
        x.law(0);
        for (int day = 0; day < 22; day++) {
            int due = day == 1 || day == 6 || day == 20 ? 2 : 0;
            CHECK.due("day " + day, x.room(), due);
            x.odds(3, 50);
            x.holds(2);
            x.sit();
            x.sit();
            x.undo();
            CHECK.due("undone, day " + day, x.room(), due);
            x.sit();
        }
        x.undo();
        x.undo();
        x.undo();
        CHECK.due("day 20 again", x.room(), 2);
        LawnAhead first = Check.lawn("sw2h1");
        Check.tell(first, 1, "y:1-d");
        first.law(0);
        for (int day = 0; day < 20; day++) {
            CHECK.due("only the first day", first.room(), day == 0 ? 2 : 0);
            first.sit();
            first.sit();
        }
        for (int day = 19; day >= 0; day--) {
            first.undo();
            first.undo();
            CHECK.due("back to the first day", first.room(), day == 0 ? 2 : 0);
        }
    }

    /** "all that was of another one is gone but LAWS, which holds, GAMES, DROUGHT" */
    private static void anotherLawn() {
        LawnAhead x = Check.lawn("sw3h3x1;tc0;tc1;bc2");
        Check.tell(x, 1, "y:c+1");
        Check.tell(x, 2, "g?;m3");
        x.law(0);
        x.drought(33);
        x.sit();
        x.sit();
        x.sit();
        x.mole(4);
        x.grow(8);
        x.book(7, true);
        x.image();
        LawnAhead fresh = new LawnAhead();
        Check.tell(fresh, 1, "y:c+1");
        Check.tell(fresh, 2, "g?;m3");
        fresh.law(0);
        fresh.drought(33);
        CHECK.due("thistles, earth, a book", x.count(9) + x.count(10) + x.cell(4, 0) + x.count(12), 7);
        CHECK.due("it meant well", x.meant(), 0);
        for (String lawn : new String[] {"sw3h3", "s", "sw2h2;t;bc3", "sw6h5q2k5l1x1;tc4"}) {
            CHECK.due("told", Check.tell(x, 0, lawn), Check.tell(fresh, 0, lawn));
            CHECK.due("as on an object of its own", Check.seen(x).equals(Check.seen(fresh)), true);
            CHECK.due("no image", x.back(), -1);
            x.sit();
            x.mole(1);
            x.image();
            Check.tell(fresh, 0, "t");
        }
    }

    /** "The LAW that holds (NONE: none). False: no such one." */
    private static void lawThatHolds() {
        LawnAhead x = Check.lawn("s;t");
        CHECK.refused("no law 0", x, 0, () -> x.law(0) ? 1 : 0);
        for (int i = 0; i < 4; i++) {
            int next = i + 1;
            Check.tell(x, 1, "y:" + i);
            CHECK.due("told, it does not hold", x.count(5), i - 1);
            CHECK.due("law " + i, x.law(i), true);
            CHECK.due("it holds", x.count(5), i);
            CHECK.due("room", x.room(), i == 0 ? 0 : 19);
            CHECK.refused("no law " + next, x, 0, () -> x.law(next) ? 1 : 0);
            CHECK.refused("law -2", x, 0, () -> x.law(-2) ? 1 : 0);
        }
        for (int far : FAR) {
            CHECK.refused("law " + far, x, 0, () -> x.law(far) ? 1 : 0);
        }
        CHECK.due("the one that holds", x.law(3), true);
        x.law(0);
        Check.tell(x, 0, "sw2h2");
        CHECK.due("of another lawn, too", x.count(5), 0);
        CHECK.due("nothing grows there", x.room(), 0);
        CHECK.due("none", x.law(LawnAhead.NONE), true);
        CHECK.due("count(5) of none", x.count(5), -1);
        CHECK.due("by LOW and HIGH", x.room(), 4);
        CHECK.due("none again", x.law(LawnAhead.NONE), true);
    }

    /** "DROUGHT (0 .. 99). False: out of bounds, it is so." */
    private static void drought() {
        LawnAhead x = new LawnAhead();
        CHECK.refused("0 at first: it is so", x, 0, () -> x.drought(0) ? 1 : 0);
        for (int v : new int[] {-1, 100, -99, 199, Integer.MAX_VALUE, Integer.MIN_VALUE}) {
            CHECK.refused("drought(" + v + ")", x, 0, () -> x.drought(v) ? 1 : 0);
        }
        for (int v = 99; v >= 0; v--) {
            int same = v;
            CHECK.due("drought(" + v + ")", x.drought(v), true);
            CHECK.due("count(11)", x.count(11), v);
            CHECK.refused("it is so", x, 0, () -> x.drought(same) ? 1 : 0);
        }
    }

    /** "ROOM: how many CELLS MAY GROW.": none to all thirty. */
    private static void room() {
        CHECK.due("thirty", Check.lawn("sw6h5").room(), 30);
        CHECK.due("one", Check.lawn("sw1h1").room(), 1);
        CHECK.due("none", Check.lawn("sw1h1;t").room(), 0);
        CHECK.due("none on beds", Check.lawn("sw2h1;b;bc1").room(), 0);
        CHECK.due("none below LOW", Check.lawn("sl1").room(), 0);
        CHECK.due("by day, too", Check.lawn("sw6h5x1").room(), 30);
        LawnAhead x = Check.lawn("sw2h2");
        for (int cell = 0; cell < 4; cell++) {
            CHECK.due("grass left", x.room(), 4 - cell);
            x.mole(cell);
        }
        CHECK.due("earth alone", x.room(), 0);
        LawnAhead won = Check.lawn("sw3h1;tc0;tc1");
        won.grow(2);
        CHECK.due("when it is won", won.room(), 0);
    }

    /** "LONGEST: how many TUFTS the longest row beside one another has, in any of the four ways." */
    private static void longest() {
        int[] strides = {1, 6, 7, 5};
        int[] firsts = {0, 0, 0, 4};
        for (int way = 0; way < 4; way++) {
            LawnAhead x = Check.lawn("sw6h5q5");
            CHECK.due("none", x.longest(), 0);
            for (int i = 0; i < 5; i++) {
                x.grow(firsts[way] + i * strides[way]);
                x.sit();
                CHECK.due("so many, way " + way, x.longest(), i + 1);
            }
        }
        LawnAhead six = Check.lawn("sw6h1q5;tc0;tc1;tc2;tc4;tc5");
        CHECK.due("three of five", six.longest(), 3);
        CHECK.due("won", six.grow(3), 1);
        CHECK.due("six, more than a LINE", six.longest(), 6);
        CHECK.due("not over an edge", Check.lawn("sw3h3q4;tc1;tc2;tc3;tc4").longest(), 2);
        CHECK.due("not over a corner", Check.lawn("sw3h3q4;tc2;tc3;tc7").longest(), 2);
        CHECK.due("not by a bed", Check.lawn("sw3h1q3;tc0;bc1;tc2").longest(), 1);
    }

    public static void main(String[] args) {
        noLawn();
        noLawnButGames();
        rules();
        whoIsFirst();
        noSuchCells();
        around();
        eightAround();
        lowToHigh();
        worthAboveNothing();
        numbersWithin();
        dividing();
        conditions();
        lettersAtTheEdges();
        manyTufts();
        worthOfNow();
        dayOfNow();
        anotherLawn();
        lawThatHolds();
        drought();
        room();
        longest();
        CHECK.finish();
    }
}
