/** Promises 20 to 26, 37, 38: MISSING, THREATS, CUTS, ANSWERS, ADVICE, HOLDS, FORCED, ODDS, WHERE. */
public final class AheadTest {
    private static final Check CHECK = new Check();

    private static void missing() {
        LawnAhead x = Check.lawn("sw3h2q3");
        Check.tell(x, 2, "g?;x;g?");
        CHECK.due("both ways round", x.missing(0, Check.bits(0, 5), -1), 2);
        CHECK.due("first 0, then 5", x.missing(0, Check.bits(0, 5), 0), 5);
        CHECK.due("first 5, then 0", x.missing(0, Check.bits(0, 5), 1), 150);
        CHECK.due("no third", x.missing(0, Check.bits(0, 5), 2), -1);
        CHECK.due("below NONE", x.missing(0, Check.bits(0, 5), -2), -1);
        CHECK.due("not so many", x.missing(0, Check.bits(0, 1, 5), -1), 0);
        CHECK.due("no such set", x.missing(0, Check.bits(6), -1), -1);
        CHECK.due("no such set, below", x.missing(0, -1, -1), -1);
        CHECK.due("no such game", x.missing(1, 0, -1), -1);
        CHECK.due("no such game below", x.missing(-1, 0, -1), -1);
        Check.tell(x, 2, "g?;x;g?;x;g?;c0r1");
        CHECK.due("no line behind the last", x.missing(1, Check.bits(1, 2), -1), 0);
        CHECK.due("six ways round", x.missing(1, Check.bits(1, 3), -1), 6);
        CHECK.due("0, 1, 3", x.missing(1, Check.bits(1, 3), 0), 33);
        CHECK.due("3, 1, 0", x.missing(1, Check.bits(1, 3), 5), 2730);
        Check.tell(x, 2, "g1;x;g2");
        CHECK.due("none missing", x.missing(2, Check.bits(1, 2), -1), 1);
        CHECK.due("no digits", x.missing(2, Check.bits(1, 2), 0), 0);
        CHECK.due("another set", x.missing(2, Check.bits(1), -1), 0);
        Check.tell(x, 2, "g?;x;g?;x;g?;x;g?");
        CHECK.due("four missing", x.missing(3, 0, -1), -1);
        LawnAhead none = new LawnAhead();
        Check.tell(none, 2, "g?");
        CHECK.due("no lawn", none.missing(0, 0, -1), -1);
        LawnAhead law = Check.lawn("sw3h2q3");
        Check.tell(law, 1, "y:d=1&c=2?1;y:d=0?1");
        Check.tell(law, 2, "g0;x;g?");
        law.law(0);
        CHECK.due("the day counts", law.missing(0, Check.bits(0, 1), -1), 0);
        CHECK.due("column 2 then", law.missing(0, Check.bits(0, 5), 0), 5);
    }

    private static void threats() {
        CHECK.due("between two", Check.lawn("tc0;tc2").threats(), Check.bits(1));
        CHECK.due("at both ends", Check.lawn("tc6;tc7").threats(), Check.bits(5, 8));
        CHECK.due("down", Check.lawn("tc6;tc11").threats(), Check.bits(1, 16));
        CHECK.due("over corners", Check.lawn("tc6;tc12").threats(), Check.bits(0, 18));
        CHECK.due("over the others", Check.lawn("tc8;tc12").threats(), Check.bits(4, 16));
        CHECK.due("not over the edge", Check.lawn("tc3;tc4").threats(), Check.bits(2));
        CHECK.due("not on a bed", Check.lawn("tc6;tc7;bc5").threats(), Check.bits(8));
        CHECK.due("not where it may not", Check.lawn("su1;tc6;tc7;tc14").threats(), Check.bits(5));
        CHECK.due("by day, too", Check.lawn("sx1;tc0;tc2").threats(), Check.bits(1));
        LawnAhead x = Check.lawn("tc6;tc7");
        x.mole(5);
        CHECK.due("not on earth", x.threats(), Check.bits(8));
        CHECK.due("none", Check.lawn("s").threats(), 0);
    }

    private static void cutsAre(LawnAhead x, int... codes) {
        CHECK.due("cuts(-1)", x.cuts(-1), codes.length);
        for (int i = 0; i < codes.length; i++) {
            CHECK.due("cuts(" + i + ")", x.cuts(i), codes[i]);
        }
        CHECK.due("no more cuts", x.cuts(codes.length), -1);
        CHECK.due("cuts(-2)", x.cuts(-2), -1);
    }

    private static void cuts() {
        cutsAre(Check.lawn("sw3h3k3q4;tc0;tc1;tc2;tc3;tc6"), 1, 2, 3, 12, 13, 101, 102, 201, 301, 312, 601);
        cutsAre(Check.lawn("sw3h3k1q4;tc0;tc1;tc3"), 1, 101, 301);
        cutsAre(Check.lawn("s"));
    }

    private static void answers() {
        LawnAhead x = Check.lawn("tc6;tc7;tc14");
        int[] good = {601, 602, 701};
        CHECK.due("answers(-1)", x.answers(-1), 3);
        for (int i = 0; i < 3; i++) {
            CHECK.due("answers(" + i + ")", x.answers(i), good[i]);
        }
        CHECK.due("answers(3)", x.answers(3), -1);
        CHECK.due("answers(-2)", x.answers(-2), -1);
        LawnAhead day = Check.lawn("sx1;tc6;tc7");
        Check.tell(day, 1, "y:d=0?1");
        day.law(0);
        CHECK.due("threats today", day.threats(), Check.bits(5, 8));
        CHECK.due("behind a cut it is tomorrow", day.answers(-1), 3);
        Check.tell(day, 1, "y:d=1?1");
        day.law(1);
        CHECK.due("threats tomorrow alone", day.threats(), 0);
        LawnAhead more = Check.lawn("sx1k1q2;tc6;tc8");
        Check.tell(more, 1, "y:d=1?1");
        more.law(0);
        CHECK.due("no threat today", more.threats(), 0);
        CHECK.due("no answer for tomorrow", more.answers(-1), 0);
        CHECK.due("advice looks at tomorrow", more.advice(1), 8);
    }

    private static void advice() {
        LawnAhead x = Check.lawn("tc6;tc7;tc18;tc19");
        CHECK.due("the first, one of them left over", x.advice(1), 1);
        CHECK.due("two, the least code", x.advice(0), 602);
        x = Check.lawn("tc0;tc19");
        CHECK.due("one as well as the other", x.advice(0), 1);
        x = Check.lawn("tc0;tc11;tc12");
        CHECK.due("two rather than one", x.advice(0), 1102);
        CHECK.due("no threats", x.advice(1), 0);
        CHECK.due("no such what", x.advice(2), -1);
        CHECK.due("no such what below", x.advice(-1), -1);
        CHECK.due("no tuft", Check.lawn("s").advice(0), -1);
        CHECK.due("no tuft, no threats", Check.lawn("s").advice(1), -1);
    }

    private static void holding() {
        LawnAhead x = Check.lawn("tc0");
        CHECK.due("one night", x.holds(1), 1);
        CHECK.due("two nights", x.holds(2), 1);
        CHECK.due("three", x.holds(3), -1);
        CHECK.due("none", x.holds(0), -1);
        CHECK.due("by day", Check.lawn("sx1").holds(1), -1);
        CHECK.due("by day nothing is forced", Check.lawn("sx1").forced(), -1);
        CHECK.due("nothing forced", x.forced(), -1);
        x = Check.lawn("sw6h1q2k1u0;tc0");
        CHECK.due("nothing grows beside a tuft", x.holds(2), 1);
        x = Check.lawn("sw6h1q3k1;tc0;tc3");
        CHECK.due("no threat now", x.holds(1), 1);
        CHECK.due("and what grows can be cut", x.holds(2), 1);
        x = Check.lawn("sw5h1q2k1;tc2");
        CHECK.due("a threat", x.holds(1), 0);
        CHECK.due("and so not two", x.holds(2), 0);
        CHECK.due("the least: behind it whatever is left is a threat", x.forced(), 0);
        x = Check.lawn("sw5h1q2k1;tc0");
        Check.tell(x, 1, "y:d=0&c=3?1;y:d=1?1");
        x.law(0);
        CHECK.due("only 3 grows now", x.holds(1), 1);
        CHECK.due("of two one is left", x.holds(2), 0);
        CHECK.due("3 forces it", x.forced(), 3);
        x = Check.lawn("sw5h1q2k1;tc0");
        Check.tell(x, 1, "y:d=0&c=3?1;y:d=1&c=4?1");
        x.law(0);
        CHECK.due("3 is cut, or 0 with nothing beside it", x.holds(2), 1);
        CHECK.due("nothing forced then", x.forced(), -1);
        x = Check.lawn("sw3h1q2k1;tc0;tc2");
        Check.tell(x, 1, "y:d=1?1");
        x.law(0);
        CHECK.due("nothing grows tonight", x.holds(1), 1);
        CHECK.due("sitting is a way, too", x.holds(2), 0);
        CHECK.due("but no cell forces it", x.forced(), -1);
    }

    private static void odds() {
        LawnAhead x = Check.lawn("sw3h1;tc0;tc1");
        CHECK.due("now", x.odds(0, 0), 0);
        CHECK.due("sure", x.odds(1, 0), 1000000000);
        CHECK.due("half", x.odds(1, 50), 500000000);
        CHECK.due("two of three quarters", x.odds(2, 50), 750000000);
        CHECK.due("never", x.odds(3, 100), 0);
        CHECK.due("4 nights", x.odds(4, 0), -1);
        CHECK.due("-1 nights", x.odds(-1, 0), -1);
        CHECK.due("101", x.odds(1, 101), -1);
        CHECK.due("-1", x.odds(1, -1), -1);
        x = Check.lawn("sw4h2q2u1;tc7;bc0");
        // CELLS 1, 2, 3, 4, 5, 6; beside 7 are 2, 3, 6: the last, 6, has what is over.
        CHECK.due("what is over goes to the last", x.odds(1, 0), 166666666 * 2 + 166666670);
        CHECK.due("of 70 by 100", x.odds(1, 30), 116666666 * 2 + 116666670);
        x = Check.lawn("sw4h1q3;tc0;tc1");
        // CELLS 2 (wins), 3; behind 3 the other wins for sure.
        CHECK.due("two nights", x.odds(2, 0), 1000000000);
        // 1/3 cut of 10 to the 9 stays: 330,000,000; 335,000,000 each.
        CHECK.due("two nights at 33", x.odds(2, 33), 335000000 + 335000000L * 67 / 100 + 110550000);
        x = Check.lawn("sw2h1q2;t");
        Check.tell(x, 1, "y:d=1?1");
        x.law(0);
        CHECK.due("nothing may grow today: all stay", x.odds(1, 0), 0);
        CHECK.due("but tomorrow, if the house sits", x.odds(2, 25), 750000000);
        x.sit();
        CHECK.due("by day the house sits first", x.odds(1, 25), 750000000);
        CHECK.due("as by mole, whoever's turn", x.where(1), 0);
    }

    private static void moles() {
        LawnAhead x = Check.lawn("tc6;tc7");
        CHECK.due("on a tuft", x.where(0), 6);
        CHECK.due("none then", x.where(1), 0);
        x = Check.lawn("tc0;tc1");
        CHECK.due("the lowest that does it", x.where(0), 0);
        x = Check.lawn("sw2h2;b;bc1;bc2;bc3");
        CHECK.due("no such cell", x.where(0), -1);
        CHECK.due("no such cell, no threats", x.where(1), -1);
        x = Check.lawn("tc12");
        CHECK.due("cell 0 will do", x.where(0), 0);
        CHECK.due("what 2", x.where(2), -1);
        CHECK.due("what -1", x.where(-1), -1);
        x = Check.lawn("sw5h3;tc0;tc2;tc10;tc12;tc14");
        // THREATS 1, 5, 6 (twice), 7, 8, 11, 13: 2 takes part in 1, 7, 8, and 12 in 7, 11, 13.
        CHECK.due("the lower one of two", x.where(0), 2);
        CHECK.due("threats left", x.where(1), 4);
    }

    public static void main(String[] args) {
        missing();
        threats();
        cuts();
        answers();
        advice();
        holding();
        odds();
        moles();
        CHECK.finish();
    }
}
