/** Counts answers that are not as due, and helps to tell texts. */
final class Check {
    private int done;
    private int wrong;

    void due(String call, long got, long want) {
        done++;
        if (got != want) {
            wrong++;
            System.out.println(call + " answered " + got + ", due is " + want);
        }
    }

    void due(String call, boolean got, boolean want) {
        due(call, got ? 1 : 0, want ? 1 : 0);
    }

    void dueThrows(String call, Runnable asked) {
        boolean thrown = false;
        try {
            asked.run();
        } catch (java.util.NoSuchElementException e) {
            thrown = true;
        }
        due(call + " throws", thrown, true);
    }

    /** Texts of a sort, each with its FAULT. */
    void faults(int sort, Object... rows) {
        for (int i = 0; i < rows.length; i += 2) {
            due("fault(" + sort + ") of '" + rows[i] + "'", faultOf(sort, (String) rows[i]), (Integer) rows[i + 1]);
        }
    }

    /** All that can be seen of an object without changing it. */
    static String seen(LawnAhead x) {
        StringBuilder all = new StringBuilder();
        for (int i = 0; i < 16; i++) {
            all.append(" c").append(x.count(i)).append(" r").append(x.rule(i));
            for (int game = 0; game < 4; game++) {
                all.append(" m");
                for (int what = 0; what < 4; what++) {
                    all.append(' ').append(x.move(game, i, what));
                }
            }
        }
        for (int i = 0; i < 61; i++) {
            all.append(" l").append(x.log(i, 0)).append(' ').append(x.log(i, 1)).append(' ').append(x.log(i, 2) * 10 + x.log(i, 3));
        }
        for (int cell = 0; cell < x.count(0); cell++) {
            all.append(" k").append(x.cell(cell, 0)).append(x.cell(cell, 1)).append(x.cell(cell, 2));
        }
        for (int i = -1; i < 45; i++) {
            all.append(" f").append(x.fit(i)).append(' ').append(x.cuts(i)).append(' ').append(x.answers(i));
        }
        all.append(" q").append(x.threats()).append(' ').append(x.meant()).append(' ').append(x.tells()).append(' ').append(x.odds(1, 7));
        for (int sort = 0; sort < 3; sort++) {
            all.append(" w").append(x.fault(sort));
        }
        return all.toString();
    }

    /** A refused call's answer, and that nothing is changed by it. */
    void refused(String call, LawnAhead x, long due, java.util.function.LongSupplier asked) {
        String before = seen(x);
        due(call, asked.getAsLong(), due);
        due(call + " changes nothing", seen(x).equals(before), true);
    }

    void finish() {
        System.out.println(done + " answers looked at, " + wrong + " not as due");
        if (wrong != 0 || done == 0) {
            System.exit(1);
        }
    }

    /** Five numbers that hold up to twenty bytes of a text from a place on. */
    static int[] packed(String text, int from) {
        int[] numbers = new int[5];
        for (int i = 0; i < 20; i++) {
            int sign = from + i < text.length() ? text.charAt(from + i) : 0;
            numbers[i / 4] |= sign << 24 - i % 4 * 8;
        }
        return numbers;
    }

    static void tape(LawnAhead x, String text) {
        x.end(0);
        for (int from = 0; from < text.length(); from += 20) {
            int[] n = packed(text, from);
            x.feed(n[0], n[1], n[2], n[3], n[4]);
        }
    }

    static int tell(LawnAhead x, int sort, String text) {
        tape(x, text);
        return x.text(sort);
    }

    static int faultOf(int sort, String text) {
        LawnAhead x = new LawnAhead();
        tape(x, text);
        return x.fault(sort);
    }

    static LawnAhead lawn(String text) {
        LawnAhead x = new LawnAhead();
        if (tell(x, 0, text) < 1) {
            throw new IllegalArgumentException(text);
        }
        return x;
    }

    static int bits(int... cells) {
        int all = 0;
        for (int cell : cells) {
            all |= 1 << cell;
        }
        return all;
    }
}
