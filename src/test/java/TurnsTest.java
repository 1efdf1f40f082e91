/** Promises 10 to 16, 18, 19, 27, 41, 42: ACTS, GAMES by a seed, UNDO, LOG, RUN, DO, MEANT WELL, IMAGES. */
public final class TurnsTest {
    private static final Check CHECK = new Check();

    private static void logIs(LawnAhead x, int i, int... due) {
        for (int what = 0; what < 4; what++) {
            CHECK.due("log(" + i + ", " + what + ")", x.log(i, what), due[what]);
        }
    }

    private static void turns() {
        LawnAhead x = Check.lawn("sw4h3k2;tc0;bc5");
        CHECK.due("no cut by night", x.cut(0, 0, 1), -1);
        CHECK.due("on a tuft", x.grow(0), -1);
        CHECK.due("on a bed", x.grow(5), -1);
        CHECK.due("beyond", x.grow(12), -1);
        CHECK.due("below", x.grow(-1), -1);
        CHECK.due("nothing was done", x.count(14), 0);
        CHECK.due("grow(1)", x.grow(1), 0);
        CHECK.due("by day now", x.count(7), 1);
        CHECK.due("day 0", x.count(6), 0);
        CHECK.due("no growing by day", x.grow(3), -1);
        int[][] none = {{0, 0, 3}, {0, 0, 0}, {0, 2, 1}, {0, -1, 1}, {2, 0, 1}, {1, 0, 2}, {0, 1, 2}, {12, 0, 1}, {-1, 0, 1},
            {0, 0, Integer.MAX_VALUE}, {Integer.MIN_VALUE, 1, 2}, {5, 0, 1}};
        for (int[] n : none) {
            CHECK.due("no such cut " + n[0] + " " + n[1] + " " + n[2], x.cut(n[0], n[1], n[2]), -1);
        }
        CHECK.due("cut(0, 0, 2)", x.cut(0, 0, 2), 1);
        CHECK.due("none left", x.count(15), 0);
        CHECK.due("by night", x.count(7), 0);
        logIs(x, 0, 1, 0, 0, 2);
        logIs(x, 1, 0, 1, 0, 0);
        CHECK.due("the log ends", x.log(2, 0), LawnAhead.HIDDEN);
        CHECK.due("log(-1, 0)", x.log(-1, 0), LawnAhead.HIDDEN);
        CHECK.due("log(0, 4)", x.log(0, 4), LawnAhead.HIDDEN);
        CHECK.due("log(0, -1)", x.log(0, -1), LawnAhead.HIDDEN);
    }

    private static void cutsDown() {
        LawnAhead x = Check.lawn("sw3h4k3q4x1;tc1;tc4;tc7;tc2");
        CHECK.due("three down", x.cut(1, 1, 3), 1);
        CHECK.due("left", x.count(15), Check.bits(2));
        logIs(x, 0, 1, 1, 1, 3);
        x.sit();
        CHECK.due("one, down", x.cut(2, 1, 1), 2);
        logIs(x, 0, 1, 2, 0, 1);
        x = Check.lawn("sw3h2k5x1;tc2;tc3;tc4");
        CHECK.due("not over the edge", x.cut(2, 0, 2), -1);
        CHECK.due("not below the lawn", x.cut(3, 1, 2), -1);
    }

    private static void sitting() {
        LawnAhead x = Check.lawn("sw2h2q2x1");
        CHECK.due("the house sits", x.sit(), 1);
        CHECK.due("the day goes on", x.count(6), 1);
        CHECK.due("the lawn sits", x.sit(), 1);
        CHECK.due("no day by it", x.count(6), 1);
        CHECK.due("the house again", x.sit(), 2);
        CHECK.due("its thistles", x.count(10), 2);
        CHECK.due("the lawn's", x.count(9), 1);
        logIs(x, 0, 3, -1, 0, 0);
    }

    private static void moles() {
        LawnAhead x = Check.lawn("sw3h3;tc0;tc1;bc2");
        CHECK.due("on a bed", x.mole(2), -1);
        CHECK.due("beyond", x.mole(9), -1);
        CHECK.due("below", x.mole(-1), -1);
        CHECK.due("on a tuft", x.mole(0), 1);
        CHECK.due("on earth", x.mole(0), -1);
        CHECK.due("still night", x.count(7), 0);
        CHECK.due("on grass", x.mole(8), 1);
        CHECK.due("earth", x.cell(8, 0), 3);
        CHECK.due("nothing grows there", x.grow(8), -1);
        logIs(x, 0, 2, 8, 0, 0);
        x.grow(3);
        CHECK.due("by day, too", x.mole(3), 1);
        CHECK.due("still day", x.count(7), 1);
    }

    private static void won() {
        LawnAhead x = Check.lawn("sw4h2;tc0;tc2;tc7");
        CHECK.due("it has won", x.grow(1), 1);
        CHECK.due("count(8)", x.count(8), 1);
        CHECK.due("the house may not cut", x.cut(0, 0, 1), -1);
        CHECK.due("nor sit", x.sit(), -1);
        CHECK.due("no mole", x.mole(4), -1);
        CHECK.due("nothing grows", x.grow(4), -1);
        CHECK.due("no games", x.games(1, 1), -1);
        CHECK.due("no holding", x.holds(1), -1);
        CHECK.due("nothing forced", x.forced(), -1);
        CHECK.due("odds are told", x.odds(0, 0), 1000000000);
        CHECK.due("whatever comes", x.odds(3, 100), 1000000000);
        CHECK.due("threats: a line is there wherever it grows", x.threats(), Check.bits(3, 4, 5, 6));
        CHECK.due("cuts", x.cuts(-1), 6);
        CHECK.due("undo", x.undo(), 0);
        CHECK.due("not won", x.count(8), 0);
        CHECK.due("by night", x.count(7), 0);
    }

    private static void undoing() {
        LawnAhead x = Check.lawn("sw3h3q3;tc4");
        CHECK.due("none", x.undo(), -1);
        x.mole(0);
        x.grow(1);
        x.cut(4, 0, 1);
        x.sit();
        x.sit();
        CHECK.due("five", x.count(14), 5);
        CHECK.due("the house's sitting", x.undo(), 4);
        CHECK.due("its thistle", x.count(10), 0);
        CHECK.due("the day", x.count(6), 1);
        CHECK.due("the lawn's sitting", x.undo(), 3);
        CHECK.due("its thistle, too", x.count(9), 0);
        CHECK.due("the cut", x.undo(), 2);
        CHECK.due("is there again", x.count(15), Check.bits(1, 4));
        CHECK.due("day 0", x.count(6), 0);
        CHECK.due("the growing", x.undo(), 1);
        CHECK.due("the mole", x.undo(), 0);
        CHECK.due("no earth", x.cell(0, 0), 0);
        CHECK.due("no log", x.count(13), 0);
        CHECK.due("none any more", x.undo(), -1);
    }

    private static void longLog() {
        LawnAhead x = Check.lawn("sw6h5");
        for (int i = 0; i < 30; i++) {
            x.mole(i);
        }
        for (int i = 0; i < 75; i++) {
            x.sit();
        }
        CHECK.due("the latest 60", x.count(13), 60);
        CHECK.due("the latest 40", x.count(14), 40);
        logIs(x, 59, 3, -1, 0, 0);
        CHECK.due("log(60, 0)", x.log(60, 0), LawnAhead.HIDDEN);
        for (int i = 39; i >= 0; i--) {
            CHECK.due("undo", x.undo(), i);
        }
        CHECK.due("undo no more", x.undo(), -1);
        CHECK.due("35 times sat", x.count(9) + x.count(10), 35);
        CHECK.due("the log as it was then", x.count(13), 60);
        logIs(x, 34, 3, -1, 0, 0);
        logIs(x, 35, 2, 29, 0, 0);
        logIs(x, 59, 2, 5, 0, 0);
        x.image();
        x.sit();
        logIs(x, 59, 2, 6, 0, 0);
        x.back();
        logIs(x, 59, 2, 5, 0, 0);
    }

    private static void meantWell() {
        LawnAhead x = Check.lawn("sw4h3;tc0;tc1");
        CHECK.due("at first", x.meant(), 0);
        x.grow(11);
        CHECK.due("it meant well", x.meant(), 1);
        x.image();
        x.undo();
        CHECK.due("undone, too", x.meant(), 0);
        x.sit();
        CHECK.due("not by sitting", x.meant(), 0);
        x.sit();
        x.grow(2);
        CHECK.due("not by winning", x.meant(), 0);
        CHECK.due("won", x.count(8), 1);
        x.back();
        CHECK.due("in images, too", x.meant(), 1);
        x.cut(0, 0, 2);
        x.grow(0);
        CHECK.due("not without a threat", x.meant(), 1);
        CHECK.due("no lawn", new LawnAhead().meant(), -1);
    }

    private static void images() {
        LawnAhead x = Check.lawn("sw3h3;tc0");
        CHECK.due("none yet", x.back(), -1);
        x.mole(8);
        x.grow(1);
        x.sit();
        CHECK.due("image", x.image(), 1);
        x.sit();
        x.cut(0, 0, 2);
        x.mole(7);
        x.book(3, true);
        CHECK.due("back", x.back(), 1);
        int[] due = {9, 2, 0, 0, 0, -1, 1, 0, 0, 0, 1, 0, 1, 3, 0, Check.bits(0, 1)};
        for (int what = 0; what < 16; what++) {
            CHECK.due("back count(" + what + ")", x.count(what), due[what]);
        }
        CHECK.due("earth of then", x.cell(8, 0), 3);
        CHECK.due("grass of then", x.cell(7, 0), 0);
        logIs(x, 0, 3, -1, 0, 0);
        logIs(x, 2, 2, 8, 0, 0);
        x.sit();
        x.sit();
        CHECK.due("another one instead", x.image(), 2);
        x.grow(2);
        CHECK.due("won then", x.count(8), 1);
        CHECK.due("back once more", x.back(), 2);
        CHECK.due("and again", x.back(), 2);
        CHECK.due("not won", x.count(8), 0);
        CHECK.due("thistles", x.count(9), 1);
    }

    private static void runs() {
        LawnAhead x = new LawnAhead();
        Check.tell(x, 2, "g0;x;g?;c0r2;m0;g8");
        CHECK.due("no lawn: run", x.run(0), LawnAhead.HIDDEN);
        CHECK.due("no lawn: perform", x.perform(0), -1);
        Check.tell(x, 0, "sw3h3");
        CHECK.due("all can be", x.run(0), -1);
        CHECK.due("apart", x.count(14), 0);
        CHECK.due("no such game", x.run(1), LawnAhead.HIDDEN);
        CHECK.due("no such game below", x.run(-1), LawnAhead.HIDDEN);
        CHECK.due("perform none", x.perform(1), -1);
        CHECK.due("perform", x.perform(0), 6);
        CHECK.due("six acts", x.count(14), 6);
        CHECK.due("tufts", x.count(15), Check.bits(8));
        logIs(x, 3, 0, 1, 0, 0);
        CHECK.due("by day its first can't be", x.run(0), 0);
        CHECK.due("nothing is done", x.perform(0), 0);
        Check.tell(x, 2, "c8r1;g3;x;g4;x;g5;x");
        CHECK.due("not behind the win", x.run(1), 6);
        CHECK.due("up to there", x.perform(1), 6);
        CHECK.due("won", x.count(8), 1);
        CHECK.due("when it is won", x.run(1), 0);
        Check.tell(x, 0, "sw2h1;t;bc1");
        Check.tell(x, 2, "g?");
        CHECK.due("a leaf with no cell", x.run(2), 0);
        Check.tell(x, 2, "x;c0d1;c0r1");
        CHECK.due("nothing left to cut", x.run(3), 2);
        CHECK.due("two done", x.perform(3), 2);
        logIs(x, 0, 1, 0, 0, 1);
    }

    private static long drawn;

    private static int draw(int m) {
        drawn = drawn * 6364136223846793005L + 1442695040888963407L;
        return (int) ((drawn >>> 33) % m);
    }

    private static void gamesBySeed() {
        LawnAhead x = Check.lawn("sw6h5q5x1;bc0");
        CHECK.due("0 nights", x.games(0, 1), -1);
        CHECK.due("31 nights", x.games(31, 1), -1);
        CHECK.due("one night, the house sits first", x.games(1, 7), 2);
        drawn = 7;
        CHECK.due("no drought", draw(100) >= 0, true);
        int cell = 1 + draw(29);
        CHECK.due("three acts", x.count(14), 3);
        logIs(x, 0, 1, cell, 0, 1);
        logIs(x, 1, 0, cell, 0, 0);
        logIs(x, 2, 3, -1, 0, 0);
        CHECK.due("no tuft is left", x.count(1), 0);
        x.drought(99);
        drawn = 12345;
        boolean dry = draw(100) < 99;
        x.games(1, 12345);
        CHECK.due("drought", x.log(1, 0), dry ? 3 : 0);
        x = Check.lawn("sw1h1;b");
        CHECK.due("both sit", x.games(30, -5), 30);
        CHECK.due("thistles of the lawn", x.count(9), 30);
        CHECK.due("thistles of the house", x.count(10), 30);
        CHECK.due("no lawn", new LawnAhead().games(1, 1), -1);
        x = Check.lawn("sw2h1q2;t");
        CHECK.due("it wins at once", x.games(5, 3), 0);
        CHECK.due("and no more is done", x.count(13), 1);
    }

    public static void main(String[] args) {
        turns();
        cutsDown();
        sitting();
        moles();
        won();
        undoing();
        longLog();
        meantWell();
        images();
        runs();
        gamesBySeed();
        CHECK.finish();
    }
}
