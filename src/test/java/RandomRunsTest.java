import java.lang.reflect.InvocationTargetException;
import java.lang.reflect.Method;
import java.util.ArrayList;
import java.util.HashMap;
import java.util.List;
import java.util.Map;
import java.util.Random;

/** Runs of calls by draws, each on the program and on the plain one; all answers must be the same. */
public final class RandomRunsTest {
    private static final int[] WILD = {-2, -1, 0, 1, 2, 3, 16, 30, 31, 64, 100, Integer.MAX_VALUE, Integer.MIN_VALUE};
    private static final String[] OFTEN = {"grow", "cut", "sit", "mole", "undo", "threats", "cuts", "answers", "advice",
        "holds", "forced", "meant", "parts", "sumOf", "winning", "fewest", "book", "fit", "tells", "alike", "openings",
        "odds", "where", "room", "longest", "image", "back", "count", "log", "cell", "rule", "run", "perform", "missing",
        "move", "law", "drought", "games", "grow", "grow", "cut", "cut"};

    private final Map<String, Method> program = methods(LawnAhead.class);
    private final Map<String, Method> plain = methods(PlainLawn.class);
    private final List<String> told = new ArrayList<>();
    private final Random draws;
    private final TextMaker texts;
    private final Check check;
    private LawnAhead x;
    private PlainLawn y;

    private RandomRunsTest(Random draws, Check check) {
        this.draws = draws;
        this.check = check;
        texts = new TextMaker(draws);
    }

    private static Map<String, Method> methods(Class<?> type) {
        Map<String, Method> all = new HashMap<>();
        for (Method method : type.getDeclaredMethods()) {
            if (java.lang.reflect.Modifier.isPublic(method.getModifiers())) {
                all.put(method.getName(), method);
            }
        }
        return all;
    }

    private static String answer(Method method, Object on, Object[] with) {
        try {
            return String.valueOf(method.invoke(on, with));
        } catch (InvocationTargetException e) {
            return "throws " + e.getCause().getClass().getSimpleName();
        } catch (IllegalAccessException e) {
            throw new IllegalStateException(e);
        }
    }

    private String call(String name, Object... with) {
        String got = answer(program.get(name), x, with);
        String want = answer(plain.get(name), y, with);
        told.add(name + java.util.Arrays.toString(with) + " -> " + got);
        if (!got.equals(want)) {
            System.out.println("due is " + want + " in the last of:");
            told.forEach(System.out::println);
        }
        check.due(name, got.equals(want), true);
        return got;
    }

    private void tell(int sort) {
        tell(sort, texts.text(sort));
    }

    private void tell(int sort, String text) {
        told.add("// " + text);
        call("end", 0);
        for (int from = 0; from < text.length(); from += 20) {
            int[] n = Check.packed(text, from);
            call("feed", n[0], n[1], n[2], n[3], n[4]);
        }
        for (int s = 0; s < 3; s++) {
            call("fault", s);
        }
        call("text", sort);
    }

    private int wild() {
        return WILD[draws.nextInt(WILD.length)];
    }

    private int among(int below) {
        return draws.nextInt(25) == 0 ? wild() : draws.nextInt(below);
    }

    private int cells() {
        return Math.max(1, y.count(0));
    }

    private int fromNone(int below) {
        return draws.nextInt(3) == 0 ? -1 : among(below);
    }

    /** A CELL where something can be done, more often than not. */
    private int likely(int bits) {
        if (bits <= 0 || draws.nextInt(5) == 0) {
            return among(cells());
        }
        int cell = draws.nextInt(30);
        while ((bits >> cell & 1) == 0) {
            cell = (cell + 1) % 30;
        }
        return cell;
    }

    private void any(String name) {
        switch (name) {
            case "grow" -> {
                if (y.count(7) == 1 && draws.nextInt(3) > 0) {
                    call("sit");
                }
                call(name, draws.nextInt(4) == 0 ? likely(y.threats()) : among(cells()));
            }
            case "cut" -> {
                int code = y.cuts(y.cuts(-1) < 1 ? -1 : draws.nextInt(y.cuts(-1)));
                boolean wide = draws.nextInt(3) == 0 || code < 0;
                call(name, wide ? among(cells()) : code / 100, wide ? among(2) : code / 10 % 10,
                    wide ? among(6) : code % 10);
            }
            case "mole" -> {
                if (draws.nextInt(2) == 0) {
                    call(name, among(cells()));
                }
            }
            case "cuts", "answers" -> call(name, fromNone(12));
            case "advice", "alike", "where" -> call(name, among(2));
            case "holds" -> call(name, 1 + among(2));
            case "parts", "sumOf", "fit" -> call(name, fromNone(5));
            case "book" -> call(name, among(cells()), draws.nextInt(3) > 0);
            case "odds" -> call(name, cells() > 12 ? among(3) : among(4), draws.nextBoolean() ? among(101) : 0);
            case "count" -> call(name, among(16));
            case "log" -> call(name, draws.nextInt(4) == 0 ? among(64) : among(4), among(4));
            case "cell" -> call(name, among(cells()), among(3));
            case "rule" -> call(name, among(6));
            case "run", "perform" -> call(name, among(4));
            case "missing" -> call(name, among(4), draws.nextInt(4) == 0 ? wild() : aim(), fromNone(4));
            case "move" -> call(name, among(4), among(6), among(4));
            case "law" -> call(name, draws.nextInt(5) - 1);
            case "drought" -> call(name, among(100));
            case "games" -> call(name, draws.nextInt(6) == 0 ? among(31) : 1 + draws.nextInt(3), draws.nextLong());
            default -> call(name);
        }
    }

    /** A GAME that was played from here, some of its leaves missing, and what it came to. */
    private void playAndForget() {
        call("image");
        StringBuilder text = new StringBuilder();
        int leaves = 0;
        int moves = 1 + draws.nextInt(7);
        for (int i = 0; i < moves && y.count(8) == 0 && y.count(0) > 0; i++) {
            String move;
            int cell = likely(~y.count(15) & (1 << y.count(0)) - 1);
            int cuts = y.cuts(-1);
            if (draws.nextInt(8) == 0 || y.count(7) == 1 && cuts < 1) {
                move = call("sit").equals("-1") ? "" : "x";
            } else if (draws.nextInt(12) == 0) {
                move = call("mole", cell).equals("-1") ? "" : "m" + cell;
            } else if (y.count(7) == 1) {
                int code = y.cuts(draws.nextInt(cuts));
                call("cut", code / 100, code / 10 % 10, code % 10);
                move = "c" + code / 100 + "rd".charAt(code / 10 % 10) + code % 10;
            } else {
                boolean grew = !call("grow", cell).equals("-1");
                boolean lost = draws.nextInt(2) == 0 && leaves < (cells() > 12 ? 2 : 3);
                leaves += grew && lost ? 1 : 0;
                move = grew ? lost ? "g?" : "g" + cell : "";
            }
            text.append(text.length() > 0 && !move.isEmpty() ? ";" : "").append(move);
        }
        int aim = y.count(15);
        call("back");
        if (text.length() > 0 && text.length() <= 240 && y.count(3) < 4) {
            tell(2, text.toString());
            int game = y.count(3) - 1;
            call("run", game);
            for (int i = -1; i < 3; i++) {
                call("missing", game, aim, i);
            }
            if (draws.nextBoolean()) {
                call("perform", game);
            }
        }
    }

    /** TUFTS that a GAME may well come to. */
    private int aim() {
        int bits = y.count(15);
        for (int i = draws.nextInt(3); i > 0; i--) {
            bits ^= 1 << draws.nextInt(cells());
        }
        return bits;
    }

    private void lookAtAll() {
        for (int what = 0; what < 16; what++) {
            call("count", what);
        }
        for (String name : new String[] {"threats", "room", "longest", "openings", "tells", "meant", "winning", "fewest"}) {
            call(name);
        }
    }

    private void run() {
        x = new LawnAhead();
        y = new PlainLawn();
        if (draws.nextInt(10) > 0) {
            tell(0);
        }
        for (int i = draws.nextInt(4); i > 0; i--) {
            tell(1 + draws.nextInt(2));
        }
        for (int i = 0; i < 90; i++) {
            if (draws.nextInt(30) == 0) {
                tell(draws.nextInt(3));
            }
            if (draws.nextInt(25) == 0) {
                playAndForget();
            }
            if (y.count(8) == 1 && draws.nextInt(4) == 0) {
                call(draws.nextInt(3) == 0 ? "back" : "undo");
            }
            any(OFTEN[draws.nextInt(OFTEN.length)]);
        }
        lookAtAll();
    }

    public static void main(String[] args) {
        int runs = args.length > 0 ? Integer.parseInt(args[0]) : 1500;
        int first = args.length > 1 ? Integer.parseInt(args[1]) : 1;
        Check check = new Check();
        for (int i = first; i < first + runs; i++) {
            new RandomRunsTest(new Random(i), check).run();
        }
        check.finish();
    }
}
