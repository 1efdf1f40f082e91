/** Promises 6 to 9, 39, 40: RULES, CELLS, LAWS, DROUGHT, ROOM, LONGEST. */
public final class GrowingTest {
    private static final Check CHECK = new Check();

    private static void rules() {
        LawnAhead x = Check.lawn("t");
        int[] usual = {5, 4, 3, 2, 0, 8};
        for (int what = 0; what < 6; what++) {
            CHECK.due("usual rule(" + what + ")", x.rule(what), usual[what]);
        }
        CHECK.due("rule(6)", x.rule(6), -1);
        CHECK.due("rule(-1)", x.rule(-1), -1);
        x = Check.lawn("sw6h1q5k4l2u3x1");
        int[] told = {6, 1, 5, 4, 2, 3};
        for (int what = 0; what < 6; what++) {
            CHECK.due("told rule(" + what + ")", x.rule(what), told[what]);
        }
        CHECK.due("day is first", x.count(7), 1);
    }

    private static void cells() {
        LawnAhead x = Check.lawn("sw4h3;tc0;tc1;bc5;tc11");
        x.mole(10);
        int[] kinds = {1, 1, 0, 0, 0, 2, 0, 0, 0, 0, 3, 1};
        int[] around = {1, 1, 1, 0, 2, 2, 2, 1, 0, 0, 1, 0};
        for (int cell = 0; cell < 12; cell++) {
            CHECK.due("kind of " + cell, x.cell(cell, 0), kinds[cell]);
            CHECK.due("around " + cell, x.cell(cell, 1), around[cell]);
            CHECK.due("may " + cell, x.cell(cell, 2), kinds[cell] == 0 ? 1 : 0);
        }
        CHECK.due("room", x.room(), 7);
        int[][] none = {{-1, 0}, {12, 0}, {0, 3}, {0, -1}, {Integer.MIN_VALUE, 0}, {Integer.MAX_VALUE, 2}};
        for (int[] n : none) {
            CHECK.dueThrows("cell(" + n[0] + ", " + n[1] + ")", () -> x.cell(n[0], n[1]));
        }
    }

    private static void lowAndHigh() {
        LawnAhead x = Check.lawn("sw3h3l1u1;tc0;tc2");
        int[] may = {0, 0, 0, 1, 0, 1, 0, 0, 0};
        for (int cell = 0; cell < 9; cell++) {
            CHECK.due("by low and high " + cell, x.cell(cell, 2), may[cell]);
        }
        CHECK.due("room by low and high", x.room(), 2);
    }

    private static int room(String law, String lawn) {
        LawnAhead x = Check.lawn(lawn);
        CHECK.due("the law " + law, Check.tell(x, 1, law), 0);
        CHECK.due("not before it holds", x.room(), 8);
        CHECK.due("it holds", x.law(0), true);
        CHECK.due("count(5)", x.count(5), 0);
        return x.room();
    }

    /** How many of the eight CELLS of GRASS around a TUFT in the middle MAY GROW. */
    private static void laws(Object... rows) {
        for (int i = 0; i < rows.length; i += 2) {
            CHECK.due("room by " + rows[i], room((String) rows[i], "sw3h3;tc4"), (Integer) rows[i + 1]);
        }
    }

    private static void worth() {
        laws("y:1", 8, "y:0", 0, "y:0-1", 0, "y:t", 8, "y:t-1", 0, "y:r", 5, "y:c", 5, "y:r-c", 3, "y:b", 0, "y:d", 0, "y:o", 8,
            "y:o-1", 0, "y:r=1?1", 2, "y:r=1?0;y:1", 6, "y:r<1?1", 3, "y:r>1?1", 3, "y:r=1|c=1?1", 4, "y:r=0&c=0?1", 1,
            "y:r=0|r=1&c=0?1", 4, "y:r=1&c=0|r=0?1", 4, "y:(r=0|r=1)&c=0?1", 2, "y:!r=0?1", 5, "y:!(r=0|c=0)?1", 3,
            "y:!!r=0?1", 3, "y:!r=0&c=0?1", 2, "y:c=9?1", 0, "y:c=9?1;y:r=0?1", 3, "y:c=0?1;y:r=0?0;y:r", 6,
            "y:[r+c]*2-4", 3, "y:r+c*2-4", 2, "y:r*2+c-4", 2, "y:[r+1]/2", 5, "y:5/[r-1]", 3, "y:5/0=0?1", 8,
            "y:[0-7]/2=0-3?1", 8, "y:7/[0-2]=0-3?1", 8, "y:9999*9999=1000*1000?1", 8, "y:9999*9999/1000=1000?1", 8,
            "y:[0-9999]*9999+1000*1000=0?1", 8, "y:9999*100+9999=1000*1000?1", 8, "y:0-1000*1000-1=0-1000*1000?1", 8,
            "y:9999*100+101=1000*1000?1", 8, "y:9999*100+99=1000*1000-1?1", 8,
            "y:8-4-2=2?1", 8, "y:8/4/2=1?1", 8, "y:8/4*2=4?1", 8, "y:2*7/4=3?1", 8, "y:0009=9?1", 8);
    }

    private static void letters() {
        LawnAhead x = Check.lawn("sw4h2;tc0;tc5;bc2;bc7");
        Check.tell(x, 1, "y:b");
        Check.tell(x, 1, "y:d=1?1");
        Check.tell(x, 1, "y:t*10+b*100+r*1000+c=1113?1;y:t=2&b=0&r=1&c=0?1");
        x.law(0);
        int[] beds = {0, 1, 0, 1, 0, 0, 1, 0};
        for (int cell = 0; cell < 8; cell++) {
            CHECK.due("beds around " + cell, x.cell(cell, 2), beds[cell]);
        }
        x.law(1);
        CHECK.due("day 0", x.room(), 0);
        x.sit();
        CHECK.due("by day of day 0", x.room(), 0);
        x.sit();
        CHECK.due("day 1", x.room(), 4);
        x.undo();
        CHECK.due("undone", x.room(), 0);
        x.law(2);
        CHECK.due("one by all letters", x.room(), 1);
        CHECK.due("it is 4", x.cell(4, 2), 1);
    }

    private static void lawThatHolds() {
        LawnAhead x = new LawnAhead();
        CHECK.due("none yet", x.law(0), false);
        CHECK.due("NONE always", x.law(-1), true);
        CHECK.due("below", x.law(-2), false);
        Check.tell(x, 1, "y:0");
        CHECK.due("without a lawn", x.law(0), true);
        CHECK.due("once more", x.law(0), true);
        CHECK.due("no such", x.law(1), false);
        CHECK.due("as it was", x.count(5), 0);
        Check.tell(x, 0, "sw2h2");
        CHECK.due("it holds on the lawn", x.room(), 0);
        Check.tape(x, "y:1");
        x.fault(1);
        CHECK.due("a tape looked at does not hold", x.room(), 0);
        CHECK.due("none again", x.law(-1), true);
        CHECK.due("room again", x.room(), 4);
    }

    private static void drought() {
        LawnAhead x = new LawnAhead();
        CHECK.due("it is so", x.drought(0), false);
        CHECK.due("99", x.drought(99), true);
        CHECK.due("100", x.drought(100), false);
        CHECK.due("-1", x.drought(-1), false);
        CHECK.due("99 again", x.drought(99), false);
        CHECK.due("count(11)", x.count(11), 99);
    }

    private static void longest() {
        CHECK.due("no tuft", Check.lawn("s").longest(), 0);
        CHECK.due("one", Check.lawn("t").longest(), 1);
        CHECK.due("right", Check.lawn("sq5;tc5;tc6;tc7;tc8").longest(), 4);
        CHECK.due("not over the edge", Check.lawn("sq5;tc3;tc4;tc5;tc6").longest(), 2);
        CHECK.due("down", Check.lawn("sq4;tc1;tc6;tc11;tc18").longest(), 3);
        CHECK.due("down to the right", Check.lawn("sq4;tc0;tc6;tc12").longest(), 3);
        CHECK.due("down to the left", Check.lawn("sq4;tc4;tc8;tc12").longest(), 3);
        CHECK.due("not over the corner", Check.lawn("sq4;tc4;tc10;tc5").longest(), 2);
        CHECK.due("one column", Check.lawn("sw1h5q5;tc0;tc1;tc2;tc4").longest(), 3);
        CHECK.due("no lawn", new LawnAhead().longest(), -1);
    }

    public static void main(String[] args) {
        rules();
        cells();
        lowAndHigh();
        worth();
        letters();
        lawThatHolds();
        drought();
        longest();
        CHECK.finish();
    }
}
