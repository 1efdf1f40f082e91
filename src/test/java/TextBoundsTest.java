/** The bounds of TEXTS (Terms 1, promises 2 to 5 and 17): each method is about one sentence of the document. */
public final class TextBoundsTest {
    private static final Check CHECK = new Check();
    private static final int FULL = 240;
    private static final String DIGITS = "0123456789";

    /** "Twenty bytes more come to the TAPE (of each number the highest first; bytes of 0 are left out): how many it has." */
    private static void feedHasTwentyBytes() {
        LawnAhead x = new LawnAhead();
        CHECK.due("nothing but 0", x.feed(0, 0, 0, 0, 0), 0);
        CHECK.due("twenty", x.feed(0x73773168, 0x31713220, 0x20202020, 0x20202020, 0x20202020), 20);
        CHECK.due("in this order", x.text(0), 1);
        CHECK.due("LINE is of the sixth byte on", x.rule(2), 2);
        for (int place = 0; place < 20; place++) {
            int[] one = new int[5];
            one[place / 4] = 's' << 24 - place % 4 * 8;
            x.end(0);
            CHECK.due("one byte at " + place, x.feed(one[0], one[1], one[2], one[3], one[4]), 1);
            CHECK.due("is that byte", x.fault(0), -1);
        }
        x.end(0);
        CHECK.due("bytes of 255 count", x.feed(-1, -1, -1, -1, -1), 20);
        CHECK.due("bytes of 128 count", x.feed(0x80808080, Integer.MIN_VALUE, 0, 0, 128), 26);
    }

    /** "NONE: more than 240." */
    private static void feedUpTo240() {
        for (int room = 0; room <= 21; room++) {
            for (int more = Math.max(0, room - 1); more <= Math.min(20, room + 1); more++) {
                LawnAhead x = new LawnAhead();
                Check.tape(x, "y".repeat(FULL - room));
                int[] n = Check.packed(":".repeat(more), 0);
                int got = x.feed(n[0], n[1], n[2], n[3], n[4]);
                CHECK.due(more + " bytes where there is room for " + room, got, more > room ? -1 : FULL - room + more);
                CHECK.due("the tape then", x.count(4), more > room ? FULL - room : FULL - room + more);
            }
        }
        LawnAhead full = new LawnAhead();
        Check.tape(full, "y:" + "1+".repeat(117) + "1  ");
        CHECK.due("one short of 240", full.count(4), FULL - 1);
        CHECK.refused("two bytes more", full, -1, () -> full.feed(0, 0, 0x00202000, 0, 0));
        CHECK.due("one byte more", full.feed(0, 0, 0, 0, 0x00002b00), FULL);
        CHECK.due("which has come to the end", full.fault(1), FULL);
        CHECK.refused("a byte when it is full", full, -1, () -> full.feed(0, 1, 0, 0, 0));
        CHECK.refused("twenty bytes when it is full", full, -1, () -> full.feed(-1, -1, -1, -1, -1));
        CHECK.due("nothing when it is full", full.feed(0, 0, 0, 0, 0), FULL);
    }

    /** "The TAPE has its first n bytes alone. False: n." */
    private static void endKeepsTheFirst() {
        LawnAhead x = new LawnAhead();
        CHECK.due("0 of none", x.end(0), true);
        CHECK.refused("1 of none", x, 0, () -> x.end(1) ? 1 : 0);
        Check.tape(x, "y:12345");
        for (int n : new int[] {8, -1, FULL, FULL + 1, Integer.MAX_VALUE, Integer.MIN_VALUE}) {
            CHECK.refused("end(" + n + ") of 7", x, 0, () -> x.end(n) ? 1 : 0);
        }
        CHECK.due("all of them", x.end(7), true);
        CHECK.due("all are there", x.count(4), 7);
        CHECK.due("the fifth digit, too", x.fault(1), 6);
        CHECK.due("but one", x.end(6), true);
        CHECK.due("without it no fault", x.fault(1), -1);
        CHECK.due("they don't come back", x.end(7), false);
        CHECK.due("a byte comes behind the first six", x.feed(0x7a000000, 0, 0, 0, 0), 7);
        CHECK.due("and not where it was", x.fault(1), 6);
        CHECK.due("none of them", x.end(0), true);
        CHECK.due("empty", x.fault(1), 0);
        Check.tape(x, " ".repeat(FULL));
        CHECK.due("all of 240", x.end(FULL), true);
        CHECK.due("one more than 240", x.end(FULL + 1), false);
    }

    /** "-2: no such sort." and "NONE: .. no such sort": changes nothing. */
    private static void sorts() {
        LawnAhead x = new LawnAhead();
        Check.tell(x, 0, "sw3h3;tc4");
        x.grow(0);
        for (String text : new String[] {"s", "y:1", "x", ""}) {
            Check.tape(x, text);
            for (int sort : new int[] {-1, -2, 3, 4, Integer.MAX_VALUE, Integer.MIN_VALUE}) {
                CHECK.refused("fault(" + sort + ") of '" + text + "'", x, -2, () -> x.fault(sort));
                CHECK.refused("text(" + sort + ") of '" + text + "'", x, -1, () -> x.text(sort));
            }
        }
    }

    /** "a LAW, a GAME: its number. NONE: a FAULT, .. there are four." */
    private static void fourLawsAndGames() {
        LawnAhead x = new LawnAhead();
        String[] right = {"", "y:1", "x"};
        String[] wrong = {"", "y:1;", "x;"};
        for (int sort = 1; sort <= 2; sort++) {
            int as = sort;
            for (int i = 0; i < 4; i++) {
                Check.tape(x, wrong[sort]);
                CHECK.refused("a fault as " + sort, x, -1, () -> x.text(as));
                CHECK.due("number " + i + " of " + sort, Check.tell(x, sort, right[sort]), i);
                CHECK.due("the tape is empty then", x.count(4), 0);
                CHECK.due("so many of " + sort, x.count(1 + sort), i + 1);
            }
            Check.tape(x, right[sort]);
            CHECK.refused("there are four of " + sort, x, -1, () -> x.text(as));
            CHECK.refused("its fault is still told", x, -1, () -> x.fault(as));
            Check.tape(x, wrong[sort]);
            CHECK.refused("a fault when there are four", x, wrong[sort].length(), () -> x.fault(as));
            CHECK.refused("neither is it one", x, -1, () -> x.text(as));
        }
        CHECK.due("a lawn can still be told", Check.tell(x, 0, "s"), 20);
        CHECK.due("and another one", Check.tell(x, 0, "sw1"), 4);
    }

    /** "how many CELLS", "w WIDTH (1 .. 6; 5 without), h HEIGHT (1 .. 5; 4)" */
    private static void sizes() {
        for (int w = 1; w <= 6; w++) {
            for (int h = 1; h <= 5; h++) {
                LawnAhead x = new LawnAhead();
                CHECK.due("cells", Check.tell(x, 0, "sh" + h + "w" + w + ";bc" + (w * h - 1)), w * h);
                CHECK.due("count(0)", x.count(0), w * h);
                CHECK.due("the last cell", x.cell(w * h - 1, 0), 2);
                CHECK.dueThrows("behind the last", () -> x.cell(x.count(0), 0));
                CHECK.due("a cell not of the lawn", Check.faultOf(0, "sh" + h + "w" + w + ";tc" + w * h),
                    w * h == 30 ? 9 : (";tc" + w * h).length() + 5);
            }
        }
    }

    /** "and a number (one or two digits): of s: w WIDTH (1 .. 6; ..) ..": "a number out of bounds is wrong at its last digit". */
    private static void numbersOfRules() {
        String letters = "whqklux";
        int[] least = {1, 1, 2, 1, 0, 0, 0};
        int[] most = {6, 5, 5, 5, 8, 8, 1};
        for (int i = 0; i < letters.length(); i++) {
            for (int v = 0; v < 100; v++) {
                boolean within = v >= least[i] && v <= most[i];
                String text = "s" + letters.charAt(i) + v;
                CHECK.faults(0, text, within ? -1 : text.length() - 1, text + ";", within ? text.length() + 1 : text.length() - 1);
                if (v < 10) {
                    CHECK.faults(0, "s" + letters.charAt(i) + "0" + v, within ? -1 : 3);
                } else {
                    CHECK.faults(0, text + "0", 4, text + "0;", 4, text + "99", 4);
                }
            }
        }
    }

    /** "of t, b: c CELL (0 .. 29; 0)" */
    private static void numbersOfCells() {
        for (String clause : new String[] {"t", "b"}) {
            for (int v = 0; v < 100; v++) {
                String text = clause + "c" + v;
                CHECK.faults(0, text + ";sw6h5", v < 30 ? -1 : 3, text, v < 20 ? -1 : v < 30 ? 4 : 3, text + ";z",
                    v < 30 ? text.length() + 1 : 3);
                if (v > 9) {
                    CHECK.faults(0, text + "0", 4);
                }
            }
            CHECK.faults(0, clause + "c00", -1, clause + "c09", -1, clause + "c029", 4, clause + "c300", 4, clause + "c", 2);
        }
        CHECK.due("without c it is cell 0", Check.lawn("t").count(15), 1);
        CHECK.due("of a bed, too", Check.lawn("b").cell(0, 0), 2);
    }

    /** The numbers of MOVES: "0 .. 29", "a digit (1 .. 5 ..)". */
    private static void numbersOfMoves() {
        for (String letter : new String[] {"g", "m"}) {
            for (int v = 0; v < 100; v++) {
                String text = letter + v;
                CHECK.faults(2, text, v < 30 ? -1 : 2, text + ";x", v < 30 ? -1 : 2);
                if (v > 9) {
                    CHECK.faults(2, text + "0", 3);
                }
            }
        }
        for (int v = 0; v < 100; v++) {
            String text = "c" + v;
            CHECK.faults(2, text + "d5", v < 30 ? -1 : 2, text, v < 30 ? text.length() : 2);
        }
        for (char way : "rd".toCharArray()) {
            for (int many = 0; many < 10; many++) {
                CHECK.faults(2, "c7" + way + many, many >= 1 && many <= 5 ? -1 : 3);
            }
        }
    }

    /** "ATOM: a number (1 to 4 digits)", "a fifth one in a LAW (itself)". */
    private static void numbersOfLaws() {
        CHECK.faults(1, "y:0", -1, "y:00", -1, "y:000", -1, "y:0000", -1, "y:00000", 6, "y:9999", -1, "y:99990", 6,
            "y:t+12345", 8, "y:[12345]", 7, "y:12345<1?1", 6, "y:1<12345?1", 8, "y:1<2?12345", 10, "y:123456", 6);
    }

    /** "s (its RULES; one at most), t (a TUFT; none to 12), b (a BED; none to 8), in any order" */
    private static void clausesOfLawns() {
        String tufts = ";tc0;tc2;tc4;tc7;tc9;tc11;tc12;tc14;tc16;tc19;tc21;tc23";
        String beds = ";bc1;bc3;bc5;bc6;bc8;bc10;bc13;bc15";
        String rules = "sw6h5q5";
        CHECK.faults(0, rules + tufts + beds, -1, rules + beds + tufts, -1, tufts.substring(1) + ";" + rules + beds, -1,
            beds.substring(1) + tufts + ";" + rules, -1);
        CHECK.due("all of them", Check.lawn(rules + tufts + beds).room(), 10);
        String full = rules + tufts + beds;
        CHECK.faults(0, full + ";t", full.length() + 1, full + ";b", full.length() + 1, full + ";s", full.length() + 1,
            full + ";", full.length() + 1, full + " ; x", full.length() + 3);
        CHECK.faults(0, rules + tufts + ";tc29", rules.length() + tufts.length() + 1,
            rules + tufts + ";t", rules.length() + tufts.length() + 1, "t;" + "t;".repeat(11) + "b;t", 26);
        CHECK.faults(0, rules + beds + ";bc29", rules.length() + beds.length() + 1, "b;b;b;b;b;b;b;b;t;b", 18);
        CHECK.faults(0, "s;t;s", 4, "sw5;sh4", 4, "s;s;s", 2, "t;s;b;s", 6);
    }

    /** "a letter, each once at most in a CLAUSE": "a letter that was there (is wrong at it)". */
    private static void lettersOnce() {
        String letters = "whqklux";
        for (int i = 0; i < letters.length(); i++) {
            for (int j = 0; j < letters.length(); j++) {
                String text = "s" + letters.charAt(i) + (i == 2 ? "2" : "1") + letters.charAt(j) + (j == 2 ? "2" : "1");
                CHECK.faults(0, text, i == j ? 3 : -1, text + letters.charAt(i), i == j ? 3 : 5);
            }
        }
        CHECK.faults(0, "sx0u8l0k2q3h4w5", -1, "sx0u8l0k2q3h4w5x", 15, "tc1;tc2", -1, "tc1c1", 3, "bc1c", 3, "tc1 c", 4);
    }

    /** What can stand behind a beginning: a sign that makes it whole, one with which it ends too early, or a FAULT there. */
    private static void goesOn(int sort, String start, String whole, String early) {
        for (int sign = 1; sign < 256; sign++) {
            String text = start + (char) sign;
            boolean isWhole = whole.indexOf(sign) >= 0;
            boolean isEarly = early.indexOf(sign) >= 0;
            CHECK.faults(sort, text, isWhole ? -1 : isEarly ? text.length() : start.length());
        }
    }

    /** "FAULT: the first byte at which no such TEXT can go on (the length, if it ends too early ..)" */
    private static void everyByte() {
        goesOn(0, "", "stb", " ");
        goesOn(0, "s", " ", "whqklux;");
        goesOn(0, "sw", "123456", "  ");
        goesOn(0, "sw5", " ", "hqklux;");
        goesOn(0, "t", " ", "c;");
        goesOn(0, "tc", DIGITS, " ");
        goesOn(0, "tc1", DIGITS + " ", ";");
        goesOn(0, "tc1;", "stb", " ");
        goesOn(0, "s;", "tb", " ");
        goesOn(1, "", "", "y ");
        goesOn(1, "y", "", ": ");
        goesOn(1, "y:", DIGITS + "trcbdo", "[(! ");
        goesOn(1, "y:1", DIGITS + " ", "+-*/=<>;");
        goesOn(1, "y:t", " ", "+-*/=<>;");
        goesOn(1, "y:t+", DIGITS + "trcbdo", "[ ");
        goesOn(1, "y:t*", DIGITS + "trcbdo", "[ ");
        goesOn(1, "y:t=", "", DIGITS + "trcbdo[ ");
        goesOn(1, "y:t=1", "", DIGITS + "+-*/&|? ");
        goesOn(1, "y:t=1&", "", DIGITS + "trcbdo[(! ");
        goesOn(1, "y:t=1|", "", DIGITS + "trcbdo[(! ");
        goesOn(1, "y:t=1?", DIGITS + "trcbdo", "[ ");
        goesOn(1, "y:t=1?1", DIGITS + " ", "+-*/;");
        goesOn(1, "y:t;", "", "y ");
        goesOn(1, "y:!", "", DIGITS + "trcbdo[(! ");
        goesOn(1, "y:!t", "", "+-*/=<> ");
        goesOn(1, "y:(", "", DIGITS + "trcbdo[(! ");
        goesOn(1, "y:(t", "", "+-*/=<> ");
        goesOn(1, "y:(t=t", "", "+-*/&|) ");
        goesOn(1, "y:(t=t)", "", "&|? ");
        goesOn(1, "y:[", "", DIGITS + "trcbdo[ ");
        goesOn(1, "y:[t", "]", "+-*/ ");
        goesOn(1, "y:[t]", " ", "+-*/=<>;");
        goesOn(2, "", "x", "gcm ");
        goesOn(2, "x", " ", ";");
        goesOn(2, "x;", "x", "gcm ");
        goesOn(2, "g", DIGITS + "?", " ");
        goesOn(2, "g1", DIGITS + " ", ";");
        goesOn(2, "g?", " ", ";");
        goesOn(2, "m", DIGITS, " ");
        goesOn(2, "m1", DIGITS + " ", ";");
        goesOn(2, "c", "", DIGITS + " ");
        goesOn(2, "c1", "", DIGITS + "rd ");
        goesOn(2, "c1r", "12345", " ");
        goesOn(2, "c1d", "12345", " ");
        goesOn(2, "c1r1", " ", ";");
    }

    /** "Blanks (32) may stand between all signs of these, not within numbers." */
    private static void blanks() {
        String[] whole = {"sw6h5q4k3l1u7x1;tc10;bc29;t", "y:(t=1|!r<22)&[c-b]*o>10?d/2+1;y:333;y:4444<1?0", "g12;c3r4;g?;m29;x;c10d1"};
        for (int sort = 0; sort < 3; sort++) {
            String text = whole[sort];
            CHECK.faults(sort, text, -1, "  " + text + "   ", -1);
            StringBuilder wide = new StringBuilder();
            for (int at = 0; at <= text.length(); at++) {
                boolean within = at > 0 && at < text.length() && Character.isDigit(text.charAt(at - 1)) && Character.isDigit(text.charAt(at));
                CHECK.faults(sort, text.substring(0, at) + " " + text.substring(at), within ? at + 1 : -1);
                CHECK.faults(sort, text.substring(0, at) + "\t" + text.substring(at), at);
                wide.append(within ? "" : "  ").append(at < text.length() ? text.substring(at, at + 1) : "");
            }
            CHECK.faults(sort, wide.toString(), -1, " ", 1, "   ", 3, " ".repeat(FULL), FULL);
        }
    }

    /** "(the length, if it ends too early, with a CELL that is not of the LAWN, two TUFTS or BEDS in one CELL, LOW above HIGH, ..)" */
    private static void wrongAsAWhole() {
        CHECK.faults(0, "tc20", 4, "bc20", 4, "tc19", -1, "bc19", -1, "sw4;tc16", 8, "sw4;tc15", -1, "tc16;sw4 ", 9, "sh5;tc24", -1);
        CHECK.faults(0, "tc7;tc7", 7, "bc7;bc7", 7, "tc7;bc7", 7, "bc7;tc7", 7, "tc7;bc8", -1, "t;t", 3, "t;tc0", 5, "t;tc00 ", 7,
            "tc7;tc07", 8, "tc7;s;b;tc7", 11);
        for (int low = 0; low <= 8; low++) {
            for (int high = 0; high <= 8; high++) {
                CHECK.faults(0, "sl" + low + "u" + high, low > high ? 5 : -1, "su" + high + "l" + low + " ", low > high ? 6 : -1);
            }
        }
        CHECK.faults(0, "su0", -1, "sl8", -1);
        CHECK.due("a text that is wrong as a whole is none", Check.tell(new LawnAhead(), 0, "tc20"), -1);
    }

    private static boolean isRow(int w, int first, int second, int third) {
        int across = second % w - first % w;
        int down = second / w - first / w;
        boolean straight = third % w - second % w == across && third / w - second / w == down;
        return straight && Math.abs(across) <= 1 && down >= 0 && down <= 1;
    }

    /** ".. or a LINE of TUFTS": none over an edge. */
    private static void linesOfTufts() {
        for (int w = 1; w <= 6; w++) {
            for (int h = 1; h <= 5; h++) {
                for (int stride : new int[] {1, w - 1, w, w + 1}) {
                    for (int first = 0; stride > 0 && first + 2 * stride < w * h; first++) {
                        int second = first + stride;
                        int third = second + stride;
                        String text = "sw" + w + "h" + h + ";tc" + third + ";tc" + first + ";tc" + second;
                        CHECK.faults(0, text, isRow(w, first, second, third) ? text.length() : -1, text + ";sq4", text.length() + 1);
                    }
                }
            }
        }
    }

    /** "LINE (2 .. 5; 3)": so many TUFTS are one, one less is none. */
    private static void linesOfEachLength() {
        for (int q = 2; q <= 5; q++) {
            int[] strides = {1, 6, 7, 5};
            int[] firsts = {0, 0, 0, 4};
            for (int way = 0; way < 4; way++) {
                StringBuilder text = new StringBuilder("sw6h5q" + q);
                for (int i = 0; i < 5; i++) {
                    text.append(";tc").append(firsts[way] + i * strides[way]);
                    CHECK.faults(0, text.toString(), i + 1 < q ? -1 : text.length());
                }
            }
        }
    }

    /** "At most six of ( [ ! within one another.": "a seventh of ( [ ! in a LAW at it" */
    private static void sixWithinOneAnother() {
        for (int kinds = 0; kinds < 128; kinds++) {
            StringBuilder opened = new StringBuilder();
            StringBuilder closed = new StringBuilder();
            for (int i = 0; i < 7; i++) {
                opened.append((kinds >> i & 1) == 0 ? "!" : "(");
                closed.insert(0, (kinds >> i & 1) == 0 ? "" : ")");
                String text = "y:" + opened + "t=1" + closed + "?1";
                CHECK.faults(1, text, i < 6 ? -1 : 8, "y:t=1&" + opened + "t=1" + closed + "?1", i < 6 ? -1 : 12);
            }
        }
        for (int conditions = 0; conditions <= 6; conditions++) {
            for (int sums = 0; conditions + sums <= 7; sums++) {
                String text = "y:" + "(".repeat(conditions) + "[".repeat(sums) + "t" + "]".repeat(sums) + "=1" + ")".repeat(conditions) + "?1";
                CHECK.faults(1, text, conditions + sums <= 6 ? -1 : 8);
                String other = "y:" + "!".repeat(conditions) + "1<" + "[".repeat(sums) + "t" + "]".repeat(sums) + "?1";
                CHECK.faults(1, other, conditions + sums <= 6 ? -1 : 10);
            }
        }
        String six = "[[[[[[t]]]]]]";
        CHECK.faults(1, "y:" + six + "+" + six + "*" + six, -1, "y:" + six + "=" + six + "?" + six + ";y:" + six, -1,
            "y:1=2?[" + six + "]", 12, "y:[" + six + "]", 8, "y:1+[" + six, 10, "y:1=[" + six, 10, "y:1;y:[" + six, 12);
        CHECK.faults(1, "y:(((((t=1)&(t=1)|(t=1&(t=1)))|!t=1)))?1", -1, "y:((((((t=1)&(t=1)|(t=1&(t=1)))|!t=1))))?1", 24);
    }

    /** "CLAUSES with ; between, one at least" */
    private static void clausesOfLaws() {
        CHECK.faults(1, "", 0, "y:1", -1, ";", 0, "y:1;;y:1", 4, "y:1;", 4, ";y:1", 0, "y:1;y:1;y:1", -1, "y:1y:1", 3);
        String sixty = "y:0;".repeat(59) + "y:1";
        CHECK.faults(1, sixty, -1, sixty + ";", FULL, sixty + " ", -1);
        LawnAhead x = Check.lawn("s");
        CHECK.due("sixty clauses", Check.tell(x, 1, sixty), 0);
        CHECK.due("of which the first holds", x.law(0) ? x.room() : -9, 0);
        CHECK.due("sixty with conditions", Check.tell(x, 1, "y:1<0?1;".repeat(29) + "y:t"), 1);
        Check.tape(x, "y:0<0?1;".repeat(29) + "y:1-o ");
        CHECK.due("the last of thirty", x.text(1), 2);
        CHECK.due("is the first that holds", x.law(2) ? x.room() : -9, 20);
    }

    /** A LAW, a LAWN and a GAME of all 240 bytes. */
    private static void fullTexts() {
        LawnAhead x = new LawnAhead();
        CHECK.due("a lawn", Check.tell(x, 0, "s".concat(" ".repeat(FULL - 3)) + "w1"), 4);
        CHECK.due("a long sum", Check.tell(x, 1, "y:" + "1+".repeat(117) + "9999"), 0);
        CHECK.due("a long product", Check.tell(x, 1, "y:" + "1*".repeat(118) + "1="), -1);
        CHECK.due("is wrong at its end", x.fault(1), FULL);
        CHECK.due("a long condition", Check.tell(x, 1, "y:" + "t=1|".repeat(58) + "t=0?1 "), 1);
        x.law(1);
        CHECK.due("its last truth", x.room(), 4);
        CHECK.due("a game", Check.tell(x, 2, ("x;".repeat(14) + "c29d5;g ").concat(" ".repeat(FULL - 38)) + "29"), 0);
        CHECK.due("its last move", x.move(0, 15, 1), 29);
    }

    /** A TEXT is read as if none had been read before it, by the same object. */
    private static void oneBehindAnother() {
        LawnAhead x = new LawnAhead();
        String[] texts = {"b;b;b;b;b;b;b;b;b", "b", "t;t;t;t;t;t;t;t;t;t;t;t;t", "t", "bc1;bc1", "bc1", "tc1;tc1", "tc1", "s;s", "s", "tc1;bc2", "tc2;bc1",
            "sw1h1;z", "tc19", "su0l1", "sl1", "sq2;t;tc1", "t;tc1"};
        int[] faults = {16, -1, 24, -1, 7, -1, 7, -1, 2, -1, -1, -1, 6, -1, 5, -1, 9, -1};
        for (int round = 0; round < 2; round++) {
            for (int i = 0; i < texts.length; i++) {
                Check.tape(x, texts[i]);
                CHECK.due("fault of '" + texts[i] + "' behind others", x.fault(0), faults[i]);
            }
        }
        CHECK.due("not in all 240 bytes", Check.tell(x, 0, "sw6h5"), 30);
        for (int game = 0; game < 4; game++) {
            Check.tape(x, "g?;g?;g?;g?;g");
            CHECK.due("a game that is wrong", x.fault(2), 13);
            CHECK.due("one behind it", Check.tell(x, 2, "g?"), game);
            CHECK.due("has one missing leaf", x.missing(game, 1 << game, 0), game);
            CHECK.due("and one move", x.move(game, 1, 0), LawnAhead.HIDDEN);
        }
        for (int law = 0; law < 4; law++) {
            Check.tape(x, "y:d;y:1=2?3;y:r=");
            CHECK.due("a law that is wrong", x.fault(1), 16);
            CHECK.due("one behind it", Check.tell(x, 1, "y:c=" + law + "?1"), law);
            x.law(law);
            CHECK.due("is that one alone", x.room(), 5);
        }
        LawnAhead y = Check.lawn("s");
        Check.tape(y, "y:!t=1?1");
        y.fault(1);
        CHECK.due("a shorter law behind it", Check.tell(y, 1, "y:1+1"), 0);
        CHECK.due("ends where it ends", y.law(0) ? y.room() : -9, 20);
    }

    /** "MOVES with ; between, 1 to 16": "the ; ahead of a 17th MOVE (is wrong)". */
    private static void sixteenMoves() {
        for (String move : new String[] {"x", "g?", "g29", "c1r5", "m0"}) {
            String sixteen = move + (";" + move).repeat(15);
            CHECK.faults(2, sixteen, -1, sixteen + ";" + move, sixteen.length(), sixteen + ";", sixteen.length(),
                sixteen + " ;z", sixteen.length() + 1, sixteen + "z", sixteen.length());
            LawnAhead x = new LawnAhead();
            CHECK.due("sixteen of " + move, Check.tell(x, 2, sixteen), 0);
            CHECK.due("the last", x.move(0, 15, 0) >= 0, true);
            CHECK.due("behind it", x.move(0, 16, 0), LawnAhead.HIDDEN);
            CHECK.due("fifteen", Check.tell(x, 2, sixteen.substring(move.length() + 1)), 1);
            CHECK.due("no sixteenth", x.move(1, 15, 0), LawnAhead.HIDDEN);
        }
        CHECK.faults(2, "", 0, ";", 0, "x;", 2, "x;;x", 2);
    }

    /** "A MOVE of a GAME: .. HIDDEN: no such ones." */
    private static void movesThatAreNone() {
        LawnAhead x = new LawnAhead();
        for (int game = 0; game < 4; game++) {
            int none = game;
            CHECK.refused("no such game yet", x, LawnAhead.HIDDEN, () -> x.move(none, 0, 0));
            Check.tell(x, 2, "x" + ";m7".repeat(game));
            CHECK.due("its last move", x.move(game, game, 0), game == 0 ? 3 : 2);
            CHECK.refused("behind its last", x, LawnAhead.HIDDEN, () -> x.move(none, none + 1, 0));
        }
        int[] bad = {-1, 4, 16, Integer.MIN_VALUE, Integer.MAX_VALUE};
        for (int n : bad) {
            CHECK.refused("game " + n, x, LawnAhead.HIDDEN, () -> x.move(n, 0, 0));
            CHECK.refused("move " + n, x, LawnAhead.HIDDEN, () -> x.move(3, n, 0));
            CHECK.refused("what " + n, x, LawnAhead.HIDDEN, () -> x.move(3, 0, n));
        }
    }

    public static void main(String[] args) {
        feedHasTwentyBytes();
        feedUpTo240();
        endKeepsTheFirst();
        sorts();
        fourLawsAndGames();
        sizes();
        numbersOfRules();
        numbersOfCells();
        numbersOfMoves();
        numbersOfLaws();
        clausesOfLawns();
        lettersOnce();
        everyByte();
        blanks();
        wrongAsAWhole();
        linesOfTufts();
        linesOfEachLength();
        sixWithinOneAnother();
        clausesOfLaws();
        fullTexts();
        oneBehindAnother();
        sixteenMoves();
        movesThatAreNone();
        CHECK.finish();
    }
}
