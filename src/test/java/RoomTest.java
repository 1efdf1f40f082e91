import java.lang.management.ManagementFactory;
import java.util.Random;

/** Any calls with any numbers: nothing but what the document names is thrown, and hardly anything is made. */
public final class RoomTest {
    private static final int[] EDGES = {Integer.MIN_VALUE, -1000000, -3, -2, -1, 0, 1, 2, 3, 4, 5, 12, 16, 29, 30, 31, 32, 60, 64,
        100, 101, 240, 241, 1 << 29, 1 << 30, Integer.MAX_VALUE};

    private static int any(Random draws) {
        return draws.nextInt(3) == 0 ? draws.nextInt(12) - 1
            : draws.nextInt(12) == 0 ? draws.nextInt() : EDGES[draws.nextInt(EDGES.length)];
    }

    private static long call(LawnAhead x, int which, Random r) {
        switch (which) {
            case 0: return x.feed(any(r), any(r), any(r), any(r), any(r));
            case 1: return x.end(any(r)) ? 1 : 0;
            case 2: return x.fault(any(r));
            case 3: return x.text(any(r));
            case 4: return x.rule(any(r));
            case 5: return x.law(any(r)) ? 1 : 0;
            case 6: return x.drought(any(r)) ? 1 : 0;
            case 7: return x.grow(any(r));
            case 8: return x.cut(any(r), any(r), any(r));
            case 9: return x.sit();
            case 10: return x.mole(any(r));
            case 11: return x.games(any(r), r.nextLong());
            case 12: return x.undo();
            case 13: return x.log(any(r), any(r));
            case 14: return x.move(any(r), any(r), any(r));
            case 15: return x.run(any(r));
            case 16: return x.perform(any(r));
            case 17: return x.missing(any(r), any(r), any(r));
            case 18: return x.threats();
            case 19: return x.cuts(any(r));
            case 20: return x.answers(any(r));
            case 21: return x.advice(any(r));
            case 22: return x.holds(any(r));
            case 23: return x.forced();
            case 24: return x.meant();
            case 25: return x.parts(any(r));
            case 26: return x.sumOf(any(r));
            case 27: return x.winning();
            case 28: return x.fewest();
            case 29: return x.book(any(r), r.nextBoolean());
            case 30: return x.fit(any(r));
            case 31: return x.tells();
            case 32: return x.alike(any(r));
            case 33: return x.openings();
            case 34: return x.odds(any(r), any(r));
            case 35: return x.where(any(r));
            case 36: return x.room();
            case 37: return x.longest();
            case 38: return x.image();
            case 39: return x.back();
            case 40: return x.count(any(r));
            default: return cell(x, any(r), any(r));
        }
    }

    private static long cell(LawnAhead x, int cell, int what) {
        try {
            return x.cell(cell, what);
        } catch (java.util.NoSuchElementException e) {
            return -7;
        }
    }

    private static void wildRuns(Check check) {
        for (int run = 0; run < 2000; run++) {
            Random draws = new Random(run);
            TextMaker texts = new TextMaker(draws);
            LawnAhead x = new LawnAhead();
            long sum = 0;
            for (int i = 0; i < 250; i++) {
                if (i % 50 == 0) {
                    int sort = i == 0 ? 0 : draws.nextInt(3);
                    sum += Check.tell(x, sort, texts.text(sort));
                }
                sum += call(x, draws.nextInt(42), draws);
            }
            check.due("a run came to its end", sum != Long.MIN_VALUE, true);
        }
    }

    /** The dearest texts and calls on one object: what is made is counted in bytes. */
    private static long madeByOne() {
        com.sun.management.ThreadMXBean meter = (com.sun.management.ThreadMXBean) ManagementFactory.getThreadMXBean();
        int[][] lawn = rows("sw6h5q5k5;tc0;tc1;tc2;tc3;tc6;tc7;tc8;tc9;tc12;tc13;tc14;tc15");
        int[][] law = rows("y:d>1000?0;" + "y:t*2+o-r*c/3>900?1;".repeat(10) + "y:1");
        int[][] game = rows("g?;x;g?;x;g?;x;x;x;x;x;x;x;x;x;x;x");
        long before = meter.getThreadAllocatedBytes(Thread.currentThread().getId());
        LawnAhead x = new LawnAhead();
        tell(x, lawn, 0);
        tell(x, law, 1);
        tell(x, game, 2);
        x.law(0);
        long sum = 0;
        for (int i = 0; i < 30; i++) {
            sum += x.missing(0, 0, -1) + x.odds(3, 5) + x.holds(2) + x.forced() + x.sumOf(0) + x.winning() + x.fewest()
                + x.answers(-1) + x.advice(0) + x.where(0) + x.openings() + x.image() + x.perform(0) + x.back() + x.games(2, i)
                + x.back();
        }
        long made = meter.getThreadAllocatedBytes(Thread.currentThread().getId()) - before;
        return sum == Long.MIN_VALUE ? -1 : made;
    }

    private static int[][] rows(String text) {
        int[][] rows = new int[(text.length() + 19) / 20][];
        for (int i = 0; i < rows.length; i++) {
            rows[i] = Check.packed(text, 20 * i);
        }
        return rows;
    }

    private static void tell(LawnAhead x, int[][] rows, int sort) {
        x.end(0);
        for (int[] n : rows) {
            x.feed(n[0], n[1], n[2], n[3], n[4]);
        }
        if (x.text(sort) < 0) {
            throw new IllegalStateException("a text of the test is wrong");
        }
    }

    public static void main(String[] args) {
        Check check = new Check();
        wildRuns(check);
        long made = madeByOne();
        System.out.println(made + " bytes made by an object and some 500 dear calls");
        check.due("an object and its dearest calls stay small", made < 120000, true);
        check.finish();
    }
}
