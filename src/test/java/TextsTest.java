/** Promises 1 to 5 and 17: a new object, the TAPE, FAULTS, texts told, MOVES. */
public final class TextsTest {
    private static final Check CHECK = new Check();

    private static void newObject() {
        LawnAhead x = new LawnAhead();
        for (int what = 0; what < 16; what++) {
            CHECK.due("new count(" + what + ")", x.count(what), what == 5 ? -1 : 0);
        }
        CHECK.due("new count(-1)", x.count(-1), LawnAhead.HIDDEN);
        CHECK.due("new rule(0)", x.rule(0), -1);
        CHECK.due("new back()", x.back(), -1);
        CHECK.dueThrows("new cell(0, 0)", () -> x.cell(0, 0));
        for (int sort = 0; sort < 3; sort++) {
            CHECK.due("fault of nothing as " + sort, x.fault(sort), 0);
            CHECK.due("text of nothing as " + sort, x.text(sort), -1);
        }
    }

    private static void tape() {
        LawnAhead x = new LawnAhead();
        CHECK.due("zeros are left out", x.feed(0x00730000, 0, 0x77003500, 0, 0x00000020), 4);
        CHECK.due("s w5 and a blank", x.fault(0), -1);
        CHECK.due("end(-1)", x.end(-1), false);
        CHECK.due("end(5)", x.end(5), false);
        CHECK.due("end(4)", x.end(4), true);
        CHECK.due("end(2)", x.end(2), true);
        CHECK.due("sw", x.fault(0), 2);
        CHECK.due("end(3) of two", x.end(3), false);
        CHECK.due("the highest first", x.feed(0x20332020, 0, 0, 0, 0), 6);
        CHECK.due("sw 3", x.text(0), 12);
        CHECK.due("empty then", x.count(4), 0);
        for (int i = 1; i <= 12; i++) {
            CHECK.due("feed " + i, x.feed(-1, 0x61616161, 0x61616161, 0x61616161, 0x61616161), 20 * i);
        }
        CHECK.due("feed of nothing when full", x.feed(0, 0, 0, 0, 0), 240);
        CHECK.due("feed of one when full", x.feed(0, 0, 0, 0, 1), -1);
        CHECK.due("still full", x.count(4), 240);
        CHECK.due("a high byte is wrong", x.fault(1), 0);
        CHECK.due("end(230)", x.end(230), true);
        CHECK.due("eleven more", x.feed(0x61616161, 0x61616161, 0x61616100, 0, 0), -1);
        CHECK.due("nothing came of them", x.count(4), 230);
        CHECK.due("ten more", x.feed(0x61616161, 0x61616161, 0x61610000, 0, 0), 240);
    }

    private static void lawnFaults() {
        CHECK.faults(0, "s", -1, " ", 1, "s w5h4q3k2l0u8x0 ;t", -1, "t;s", -1, "b", -1, "sw05", -1, "sw005", 4, "sw77", 3,
            "sw777", 4, "sw7 7", 2, "sw5 5", 4, "sw", 2, "sw;", 2, "swh", 2, "s5", 1, "sw5w5", 3, "sw5h4w5", 5, "s;s", 2,
            "t;s;t", 5, "s;;t", 2, "s;", 2, "s; ", 3, ";s", 0, "S", 0, "sx1", -1, "sx2", 2, "sq2", -1, "sk0", 2, "sk5", -1,
            "sk6", 2, "sl8u8", -1, "su3l3", -1, "su3l4", 5, "tc29", 4, "sw6h5;tc29", -1, "tc29;sw6h5", -1, "tc30", 3,
            "tc29c", 4, "tc1c1", 3, "tc001", 4, "tc1,", 3, "tc19;bc19", 9, "bc3;bc3", 7, "tc0;tc1;tc2", 11,
            "tc0;tc1;tc2;sq4", -1, "tc0;tc5;tc10", 12, "tc0;tc6;tc12", 12, "tc2;tc6;tc10", 12, "tc3;tc4;tc5", -1,
            "tc0;tc1;bc2;tc3;tc4", -1, "t\u00e9", 1, "s t", 2, "t b", 2, "sl9", 2, "sl1 ;t c 3 ", -1);
        StringBuilder twelve = new StringBuilder("s w6h5q5");
        for (int i = 0; i < 12; i++) {
            twelve.append(";tc").append(2 * i);
        }
        CHECK.due("twelve tufts", Check.faultOf(0, twelve.toString()), -1);
        CHECK.due("a 13th", Check.faultOf(0, twelve + ";t"), twelve.length() + 1);
        CHECK.due("a bed behind them", Check.faultOf(0, twelve + ";bc29"), -1);
        CHECK.due("a ninth bed", Check.faultOf(0, "b;b;b;b;b;b;b;b; b"), 17);
    }

    private static void lawFaults() {
        CHECK.faults(1, "y:1", -1, "y", 1, "y:", 2, "", 0, "x:1", 0, "y 1", 2, " y : 1 ", -1, "y:1;", 4, "y:1;y:2", -1, "y:1;z", 4,
            "y:t", -1, "y:trc", 3, "y:o+d-b*c/r", -1, "y:q", 2, "y:-1", 2, "y:1+", 4, "y:1+-", 4, "y:9999", -1, "y:99999", 6,
            "y:99 99", 5, "y:[t]", -1, "y:[t", 4, "y:[t)", 4, "y:t]", 3, "y:(t)", 4, "y:(t>1)", 7, "y:(t>1)?1", -1,
            "y:t>1?1", -1, "y:t>1", 5, "y:t>1;", 5, "y:t?1", 3, "y:t>1?1?1", 7, "y:t>1>1?1", 5, "y:t>1&t<3|t=5?1", -1,
            "y:t>1&1", 7, "y:t>1&?", 6, "y:!t=1?1", -1, "y:!1", 4, "y:!(t=1|!(o<3))?1", -1, "y:!!!!!!t=1?1", -1,
            "y:!!!!!!!t=1?1", 8, "y:((((((t=1))))))?1", -1, "y:(((((((t=1", 8, "y:[[[[[[t]]]]]]", -1, "y:[[[[[[[t", 8,
            "y:!(!([[t]]=1))?1", -1, "y:!(!([[[t]]]=1))?1", 8, "y:[[[t]]]+[[[t]]]", -1, "y:!!!t=1&!!!t=2?[[[[[[1]]]]]]", -1,
            "y:1\u00e9", 3, "y:t=1?t=1", 7, "y:t=1?(t)", 6, "y:t=1?!1", 6);
    }

    private static void gameFaults() {
        CHECK.faults(2, "", 0, "g0", -1, "g29", -1, "g30", 2, "g029", 3, "g300", 3, "g?", -1, "g ? ", -1, "g??", 2, "g1?", 2, "m?", 1,
            "c?", 1, "m29", -1, "m30", 2, "m", 1, "c0r1", -1, "c29d5", -1, "c0x1", 2, "c0r", 3, "c0r0", 3, "c0r6", 3, "c0r66", 3,
            "c0r12", 4, "c0r1 2", 5, "c 0 d 5 ; x", -1, "c30r1", 2, "c0r1r1", 4, "x;", 2, "x;;", 2, "x1", 1, "s", 0, "g1 ;m2;x;c3d4", -1);
        CHECK.due("16 moves", Check.faultOf(2, "x" + ";x".repeat(15)), -1);
        CHECK.due("the ; ahead of a 17th", Check.faultOf(2, "x" + ";x".repeat(15) + " ;x"), 32);
        CHECK.due("the ; ahead of nothing", Check.faultOf(2, "x" + ";x".repeat(15) + ";"), 31);
    }

    private static void told() {
        LawnAhead x = new LawnAhead();
        CHECK.due("a sort that is none", x.fault(3), -2);
        CHECK.due("a sort below", x.fault(-1), -2);
        CHECK.due("text(3)", x.text(3), -1);
        CHECK.due("text(-1)", x.text(-1), -1);
        for (int i = 0; i < 4; i++) {
            CHECK.due("law " + i, Check.tell(x, 1, "y:" + i), i);
            CHECK.due("game " + i, Check.tell(x, 2, "g" + i + ";x"), i);
        }
        Check.tape(x, "y:1");
        CHECK.due("a fifth law", x.text(1), -1);
        CHECK.due("is no fault", x.fault(1), -1);
        CHECK.due("its tape is left", x.count(4), 3);
        CHECK.due("a fifth game", Check.tell(x, 2, "g?"), -1);
        CHECK.due("four laws", x.count(2), 4);
        CHECK.due("four games", x.count(3), 4);
        CHECK.due("they are as they were", x.move(3, 0, 1), 3);
        CHECK.due("no lawn by them", x.count(0), 0);
        CHECK.due("a wrong text", Check.tell(x, 0, "sw9"), -1);
        CHECK.due("its bytes are left", x.count(4), 3);
    }

    private static void anotherLawn() {
        LawnAhead x = Check.lawn("sw3h3;t");
        Check.tell(x, 1, "y:1");
        Check.tell(x, 2, "x");
        x.law(0);
        x.drought(7);
        x.book(1, true);
        x.mole(8);
        x.grow(1);
        x.sit();
        x.image();
        CHECK.due("another lawn", Check.tell(x, 0, "sw2h2x1;bc1"), 4);
        int[] due = {4, 0, 1, 1, 0, 0, 0, 1, 0, 0, 0, 7, 0, 0, 0, 0};
        for (int what = 0; what < 16; what++) {
            CHECK.due("of another lawn count(" + what + ")", x.count(what), due[what]);
        }
        CHECK.due("its image is gone", x.back(), -1);
        CHECK.due("nothing to undo", x.undo(), -1);
        CHECK.due("no log", x.log(0, 0), LawnAhead.HIDDEN);
        CHECK.due("meant", x.meant(), 0);
        CHECK.due("no earth", x.room(), 3);
        CHECK.due("all pairs fit", x.fit(-1), 45);
        CHECK.due("a wrong lawn", Check.tell(x, 0, "tc9;tc9"), -1);
        CHECK.due("changes nothing", x.count(0), 4);
        CHECK.due("not its beds", x.cell(1, 0), 2);
    }

    private static void moves() {
        LawnAhead x = new LawnAhead();
        Check.tell(x, 2, "g 12;g?;c3d4;c5d1;c6r2;m29;x");
        int[][] due = {{0, 12, 0, 0}, {0, -1, 0, 0}, {1, 3, 1, 4}, {1, 5, 1, 1}, {1, 6, 0, 2}, {2, 29, 0, 0}, {3, -1, 0, 0}};
        for (int i = 0; i < due.length; i++) {
            for (int what = 0; what < 4; what++) {
                CHECK.due("move(0, " + i + ", " + what + ")", x.move(0, i, what), due[i][what]);
            }
        }
        int[][] none = {{0, 7, 0}, {0, -1, 0}, {1, 0, 0}, {-1, 0, 0}, {0, 0, 4}, {0, 0, -1}};
        for (int[] n : none) {
            CHECK.due("move that is none", x.move(n[0], n[1], n[2]), LawnAhead.HIDDEN);
        }
    }

    public static void main(String[] args) {
        newObject();
        tape();
        lawnFaults();
        lawFaults();
        gameFaults();
        told();
        anotherLawn();
        moves();
        CHECK.finish();
    }
}
