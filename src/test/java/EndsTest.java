/** Promises 28 to 36 and 43: PARTS, SUMS, WINNING, FEWEST, BOOKS, FIT, TELLS, ALIKE, OPENINGS, counts. */
public final class EndsTest {
    private static final Check CHECK = new Check();

    private static void parts() {
        LawnAhead x = Check.lawn("sw4h3q5;tc1;tc2;tc6;tc4;tc11;tc0");
        CHECK.due("parts(-1)", x.parts(-1), 2);
        CHECK.due("by the lowest", x.parts(0), Check.bits(0, 1, 2, 4, 6));
        CHECK.due("not over corners", x.parts(1), Check.bits(11));
        CHECK.due("no third", x.parts(2), -1);
        CHECK.due("below", x.parts(-2), -1);
        x = Check.lawn("sw3h2;tc2;tc3");
        CHECK.due("not over the edge", x.parts(-1), 2);
        CHECK.due("none", Check.lawn("s").parts(-1), 0);
        CHECK.due("none at 0", Check.lawn("s").parts(0), -1);
    }

    /** SUMS of a row of n are those of a row of so many pins, 1 .. k beside one another being taken. */
    private static int row(int n, int k) {
        int[] sums = new int[n + 1];
        for (int many = 1; many <= n; many++) {
            boolean[] seen = new boolean[64];
            for (int taken = 1; taken <= Math.min(k, many); taken++) {
                for (int left = 0; left + taken <= many; left++) {
                    seen[sums[left] ^ sums[many - taken - left]] = true;
                }
            }
            while (seen[sums[many]]) {
                sums[many]++;
            }
        }
        return sums[n];
    }

    private static void sums() {
        for (int k = 1; k <= 5; k++) {
            for (int n = 1; n <= 4; n++) {
                StringBuilder lawn = new StringBuilder("sw6h1q5k" + k);
                StringBuilder down = new StringBuilder("sw2h5q5k" + k);
                for (int i = 0; i < n; i++) {
                    lawn.append(";tc").append(i + 1);
                    down.append(";tc").append(2 * i + 1);
                }
                CHECK.due("row of " + n + " by " + k, Check.lawn(lawn.toString()).sumOf(0), row(n, k));
                CHECK.due("column of " + n + " by " + k, Check.lawn(down.toString()).sumOf(0), row(n, k));
            }
        }
        LawnAhead x = Check.lawn("tc0;tc1;tc3");
        CHECK.due("two", x.sumOf(0), 2);
        CHECK.due("one", x.sumOf(1), 1);
        CHECK.due("no third", x.sumOf(2), LawnAhead.HIDDEN);
        CHECK.due("below", x.sumOf(-1), LawnAhead.HIDDEN);
        CHECK.due("one of two is to be left", x.winning(), 1);
        CHECK.due("fewest", x.fewest(), 2);
        // A square of four by SHEARS 2: taking two leaves two (2), taking one leaves a corner of three.
        x = Check.lawn("sw2h2q3;tc0;tc1;tc2;tc3");
        // A corner of three: taking the middle leaves 1 ^ 1 = 0, an end 2, two 1: 3. So of four: not 2, not 3.
        CHECK.due("square", x.sumOf(0), 0);
        CHECK.due("none wins", x.winning(), -1);
        CHECK.due("two cuts", x.fewest(), 2);
        x = Check.lawn("sw2h2q3;tc0;tc1;tc2");
        CHECK.due("corner", x.sumOf(0), 3);
        CHECK.due("its middle wins", x.winning(), 1);
        x = Check.lawn("tc0;tc1");
        CHECK.due("two by shears of two", x.sumOf(0), 2);
        Check.tell(x, 0, "sk1;tc0;tc1");
        CHECK.due("the same by another lawn's shears", x.sumOf(0), 0);
        Check.tell(x, 0, "sw1;tc0;tc1");
        CHECK.due("the same in a column", x.sumOf(0), 2);
    }

    private static LawnAhead grown(String lawn, int... cells) {
        LawnAhead x = Check.lawn(lawn);
        for (int cell : cells) {
            x.grow(cell);
            x.sit();
        }
        return x;
    }

    private static void large() {
        String twelve = "sw6h3q5;tc0;tc1;tc2;tc3;tc6;tc7;tc8;tc9;tc12;tc13;tc14;tc15";
        LawnAhead x = Check.lawn(twelve);
        CHECK.due("one of twelve", x.parts(-1), 1);
        CHECK.due("twelve are told", x.sumOf(0) >= 0, true);
        CHECK.due("fewest of twelve", x.fewest(), 6);
        x = grown(twelve, 11);
        CHECK.due("another beside them", x.parts(-1), 2);
        CHECK.due("its sum", x.sumOf(1), 1);
        CHECK.due("fewest", x.fewest(), 7);
        x = grown(twelve, 10);
        CHECK.due("thirteen, and won", x.count(1) + x.count(8), 14);
        CHECK.due("one part", x.parts(-1), 1);
        CHECK.due("too many", x.sumOf(0), LawnAhead.HIDDEN);
        CHECK.due("winning", x.winning(), LawnAhead.HIDDEN);
        CHECK.due("fewest of too many", x.fewest(), LawnAhead.HIDDEN);
        x = grown("sw6h4q5;tc0;tc1;tc2;tc3;tc6;tc7;tc8;tc9;tc12;tc13;tc14;tc15", 18, 23);
        CHECK.due("a small one beside a large one", x.sumOf(1), 1);
        CHECK.due("not of the large one", x.sumOf(0), LawnAhead.HIDDEN);
        CHECK.due("no lawn", new LawnAhead().sumOf(0), LawnAhead.HIDDEN);
        x = Check.lawn("s");
        CHECK.due("no tuft: nobody can", x.winning(), -1);
        CHECK.due("no tuft: no cut", x.fewest(), 0);
    }

    private static void fewest() {
        CHECK.due("shears of 1", Check.lawn("sk1;tc0;tc1;tc5").fewest(), 3);
        CHECK.due("a corner", Check.lawn("tc0;tc1;tc5").fewest(), 2);
        CHECK.due("a cross", Check.lawn("sk3q4;tc1;tc5;tc6;tc7;tc11").fewest(), 3);
        CHECK.due("a row of four by 3", Check.lawn("sk3q5;tc0;tc1;tc2;tc3").fewest(), 2);
        CHECK.due("a row of four by 4", Check.lawn("sk4q5;tc0;tc1;tc2;tc3").fewest(), 1);
    }

    private static void books() {
        LawnAhead x = Check.lawn("sw3h3;tc0;bc1");
        CHECK.due("all pairs", x.fit(-1), 45);
        CHECK.due("the first", x.fit(0), 0);
        CHECK.due("the second row", x.fit(9), 11);
        CHECK.due("the last", x.fit(44), 88);
        CHECK.due("no more", x.fit(45), -1);
        CHECK.due("below", x.fit(-2), -1);
        CHECK.due("on a tuft", x.book(0, true), -1);
        CHECK.due("on a bed", x.book(1, true), -1);
        CHECK.due("beyond", x.book(9, true), -1);
        CHECK.due("below 0", x.book(-1, true), -1);
        x.mole(8);
        CHECK.due("on earth", x.book(8, true), -1);
        CHECK.due("with 1 around it may", x.book(3, true), 1);
        CHECK.due("low 0 or 1, high from 1", x.fit(-1), 16);
        x.grow(6);
        CHECK.due("with 2 around it may not", x.book(3, false), 2);
        CHECK.due("high is 1", x.fit(-1), 2);
        CHECK.due("01", x.fit(0), 1);
        CHECK.due("11", x.fit(1), 11);
        x.undo();
        CHECK.due("undoing leaves books", x.count(12), 2);
        CHECK.due("a cell with none around tells", x.tells(), 2);
        CHECK.due("both", x.book(3, false), 3);
        CHECK.due("nothing fits", x.fit(-1), 0);
        CHECK.due("no first", x.fit(0), -1);
        CHECK.due("the lowest of grass then", x.tells(), 2);
        for (int i = 4; i <= 12; i++) {
            CHECK.due("book " + i, x.book(3, true), i);
        }
        CHECK.due("a 13th", x.book(3, true), -1);
        CHECK.due("twelve", x.count(12), 12);
        CHECK.due("no grass", Check.lawn("sw1h1;b").tells(), -1);
        // By all 45 pairs 0 around is said to grow by 9, 1 by 16, 2 by 21, 3 by 24, 4 by 25, ..: nearest to 22.5 are 21 and 24.
        x = Check.lawn("sw5h1q5;tc1;tc3");
        CHECK.due("2 around", x.tells(), 2);
    }

    private static void alike() {
        LawnAhead x = Check.lawn("sw3h3;tc2");
        CHECK.due("a corner goes to itself by two", x.alike(0), 2);
        CHECK.due("least", x.alike(1), 1);
        x = Check.lawn("sw3h2;tc2");
        CHECK.due("not square", x.alike(0), 1);
        CHECK.due("least of four", x.alike(1), 1);
        x = Check.lawn("sw3h2;tc1;tc4");
        CHECK.due("both mirrors and the half turn", x.alike(0), 4);
        x = Check.lawn("sw3h2;tc0;tc5");
        CHECK.due("by the half turn", x.alike(0), 2);
        x = Check.lawn("sw3h3;tc1;tc3;bc8");
        CHECK.due("beds don't count", x.alike(0), 2);
        CHECK.due("least of eight", x.alike(1), Check.bits(1, 3));
        CHECK.due("none: 8", Check.lawn("sw4h4").alike(0), 8);
        CHECK.due("none: 0", Check.lawn("sw4h4").alike(1), 0);
        CHECK.due("what 2", x.alike(2), -1);
        CHECK.due("what -1", x.alike(-1), -1);
    }

    private static void openings() {
        CHECK.due("empty square of 3", Check.lawn("sw3h3").openings(), 3);
        CHECK.due("empty square of 4", Check.lawn("sw4h4").openings(), 3);
        CHECK.due("three by two", Check.lawn("sw3h2").openings(), 2);
        CHECK.due("one by one", Check.lawn("sw1h1").openings(), 1);
        CHECK.due("a bed in a corner", Check.lawn("sw3h3;b").openings(), 5);
        LawnAhead x = Check.lawn("sw3h3");
        x.mole(0);
        CHECK.due("earth in a corner", x.openings(), 5);
        CHECK.due("tuft and bed are not alike", Check.lawn("sw3h1;t;bc2").openings(), 1);
        x = Check.lawn("sw3h3");
        Check.tell(x, 1, "y:r=0?1");
        x.law(0);
        CHECK.due("only the first row", x.openings(), 2);
        Check.tell(x, 1, "y:r>0&c=0?1");
        x.law(1);
        CHECK.due("a corner and a side", x.openings(), 2);
        Check.tell(x, 1, "y:0");
        x.law(2);
        CHECK.due("none", x.openings(), 0);
    }

    private static void withoutLawn() {
        LawnAhead x = new LawnAhead();
        int[] got = {x.parts(-1), x.winning(), x.fewest(), x.book(0, true), x.fit(-1), x.tells(), x.alike(0), x.alike(1),
            x.openings(), x.room(), x.longest(), x.image(), x.back(), x.threats(), x.cuts(-1), x.answers(-1), x.advice(0),
            x.holds(1), x.forced(), x.meant(), x.odds(0, 0), x.where(0), x.where(1), x.undo(), x.sit(), x.grow(0), x.mole(0)};
        for (int i = 0; i < got.length; i++) {
            CHECK.due("without a lawn, number " + i, got[i], -1);
        }
    }

    private static void counts() {
        LawnAhead x = Check.lawn("sw4h3;tc0;tc5;bc1");
        Check.tell(x, 1, "y:1");
        Check.tell(x, 2, "x");
        Check.tape(x, "abc");
        x.law(0);
        x.drought(3);
        x.book(4, true);
        x.grow(2);
        x.cut(0, 0, 1);
        x.sit();
        int[] due = {12, 2, 1, 1, 3, 0, 1, 1, 0, 1, 0, 3, 1, 3, 3, Check.bits(2, 5)};
        for (int what = 0; what < 16; what++) {
            CHECK.due("count(" + what + ")", x.count(what), due[what]);
        }
        CHECK.due("count(16)", x.count(16), LawnAhead.HIDDEN);
        CHECK.due("count(-1)", x.count(-1), LawnAhead.HIDDEN);
    }

    public static void main(String[] args) {
        parts();
        sums();
        large();
        fewest();
        books();
        alike();
        openings();
        withoutLawn();
        counts();
        CHECK.finish();
    }
}
