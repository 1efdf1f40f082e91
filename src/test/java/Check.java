/** Counts answers that are not as due, and helps to tell texts. */
final class Check {
    private int done;
    private int wrong;

    void due(String call, long got, long want) {
        done++;
        if (got != want) {
            wrong++;
            System.out.println(call + " answered " + got + ", due is " + want);
        }
    }

    void due(String call, boolean got, boolean want) {
        due(call, got ? 1 : 0, want ? 1 : 0);
    }

    void dueThrows(String call, Runnable asked) {
        boolean thrown = false;
        try {
            asked.run();
        } catch (java.util.NoSuchElementException e) {
            thrown = true;
        }
        due(call + " throws", thrown, true);
    }

    void finish() {
        System.out.println(done + " answers looked at, " + wrong + " not as due");
        if (wrong != 0 || done == 0) {
            System.exit(1);
        }
    }

    /** Five numbers that hold up to twenty bytes of a text from a place on. */
    static int[] packed(String text, int from) {
        int[] numbers = new int[5];
        for (int i = 0; i < 20; i++) {
            int sign = from + i < text.length() ? text.charAt(from + i) : 0;
            numbers[i / 4] |= sign << 24 - i % 4 * 8;
        }
        return numbers;
    }

    static void tape(LawnAhead x, String text) {
        x.end(0);
        for (int from = 0; from < text.length(); from += 20) {
            int[] n = packed(text, from);
            x.feed(n[0], n[1], n[2], n[3], n[4]);
        }
    }

    static int tell(LawnAhead x, int sort, String text) {
        tape(x, text);
        return x.text(sort);
    }

    static int faultOf(int sort, String text) {
        LawnAhead x = new LawnAhead();
        tape(x, text);
        return x.fault(sort);
    }

    static LawnAhead lawn(String text) {
        LawnAhead x = new LawnAhead();
        if (tell(x, 0, text) < 1) {
            throw new IllegalArgumentException(text);
        }
        return x;
    }

    static int bits(int... cells) {
        int all = 0;
        for (int cell : cells) {
            all |= 1 << cell;
        }
        return all;
    }
}
