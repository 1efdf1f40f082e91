import java.util.Random;

/** Texts by draws: mostly right ones, some with a sign changed. */
final class TextMaker {
    private final Random draws;

    TextMaker(Random draws) {
        this.draws = draws;
    }

    String text(int sort) {
        String right = sort == 0 ? lawn() : sort == 1 ? law() : game();
        String spaced = draws.nextInt(4) == 0 ? blanks(right) : right;
        String made = draws.nextInt(6) == 0 ? spoilt(spaced) : spaced;
        return made.length() > 240 ? made.substring(0, 240) : made;
    }

    private int upTo(int most) {
        return draws.nextInt(most + 1);
    }

    private String lawn() {
        StringBuilder out = new StringBuilder();
        int w = 1 + draws.nextInt(6);
        int h = 1 + draws.nextInt(5);
        boolean square = draws.nextInt(4) == 0;
        if (square) {
            h = Math.min(w, 5);
            w = h;
        }
        String rules = "sw" + w + "h" + h;
        if (upTo(2) > 0) {
            rules += "q" + (2 + draws.nextInt(4));
        }
        if (upTo(1) > 0) {
            rules += "k" + (1 + draws.nextInt(5));
        }
        if (upTo(4) == 0) {
            rules += "l" + upTo(2);
        }
        if (upTo(4) == 0) {
            rules += "u" + (2 + upTo(6));
        }
        if (upTo(3) == 0) {
            rules += "x" + upTo(1);
        }
        java.util.List<Integer> cells = new java.util.ArrayList<>();
        for (int i = 0; i < w * h; i++) {
            cells.add(i);
        }
        java.util.Collections.shuffle(cells, draws);
        java.util.List<String> clauses = new java.util.ArrayList<>();
        clauses.add(rules);
        int tufts = Math.min(upTo(3) == 0 ? upTo(12) : upTo(6), cells.size());
        int beds = Math.min(upTo(2) == 0 ? upTo(8) : upTo(2), cells.size() - tufts);
        for (int i = 0; i < tufts + beds; i++) {
            clauses.add((i < tufts ? "t" : "b") + (cells.get(i) == 0 && upTo(1) == 0 ? "" : "c" + cells.get(i)));
        }
        java.util.Collections.shuffle(clauses, draws);
        for (String clause : clauses) {
            out.append(out.length() == 0 ? "" : ";").append(clause);
        }
        return out.toString();
    }

    private String law() {
        StringBuilder out = new StringBuilder();
        int clauses = 1 + upTo(2);
        for (int i = 0; i < clauses; i++) {
            out.append(i == 0 ? "" : ";").append("y:");
            if (upTo(3) > 0) {
                out.append(condition(upTo(2))).append('?');
            }
            out.append(upTo(1) == 0 ? "" + upTo(2) : sum(2));
        }
        return out.toString();
    }

    private String condition(int depth) {
        StringBuilder out = new StringBuilder(unit(depth));
        for (int i = upTo(2); i > 0; i--) {
            out.append(upTo(1) == 0 ? '|' : '&').append(unit(depth));
        }
        return out.toString();
    }

    private String unit(int depth) {
        if (depth > 0 && upTo(1) == 0) {
            return upTo(1) == 0 ? "!" + unit(depth - 1) : "(" + condition(depth - 1) + ")";
        }
        return sum(depth) + "=<>".charAt(upTo(2)) + sum(depth);
    }

    private String sum(int depth) {
        StringBuilder out = new StringBuilder(atom(depth));
        for (int i = upTo(2); i > 0; i--) {
            out.append("+-*/".charAt(upTo(3))).append(atom(depth));
        }
        return out.toString();
    }

    private String atom(int depth) {
        int kind = upTo(9);
        if (kind == 0 && depth > 0) {
            return "[" + sum(depth - 1) + "]";
        }
        if (kind < 4) {
            return "" + (upTo(5) == 0 ? upTo(9999) : upTo(4));
        }
        return "" + "trcbdottt".charAt(upTo(8));
    }

    private String game() {
        StringBuilder out = new StringBuilder();
        int moves = 1 + (upTo(9) == 0 ? upTo(17) : upTo(6));
        int cells = upTo(1) == 0 ? 12 : 29;
        int leaves = 0;
        for (int i = 0; i < moves; i++) {
            out.append(i == 0 ? "" : ";");
            int kind = upTo(9);
            boolean night = i % 2 == 0 == upTo(9) > 1;
            if (kind == 0) {
                out.append('m').append(upTo(cells));
            } else if (kind < 3) {
                out.append('x');
            } else if (night && upTo(1) == 0 && (leaves < 2 || upTo(5) == 0)) {
                out.append("g?");
                leaves++;
            } else if (night) {
                out.append('g').append(upTo(cells));
            } else {
                out.append('c').append(upTo(cells)).append("rd".charAt(upTo(1))).append(1 + upTo(upTo(3) == 0 ? 4 : 0));
            }
        }
        return out.toString();
    }

    private String blanks(String text) {
        StringBuilder out = new StringBuilder();
        for (int i = 0; i < text.length(); i++) {
            boolean within = i > 0 && Character.isDigit(text.charAt(i)) && Character.isDigit(text.charAt(i - 1));
            if (!within || upTo(40) == 0) {
                out.append(" ".repeat(upTo(8) == 0 ? 2 : upTo(1)));
            }
            out.append(text.charAt(i));
        }
        return out.append(" ".repeat(upTo(1))).toString();
    }

    private String spoilt(String text) {
        StringBuilder out = new StringBuilder(text);
        for (int i = upTo(1); i >= 0; i--) {
            int at = upTo(out.length());
            int kind = upTo(3);
            String signs = "0123456789;;stbcgmxwhqklurdy:?!()[]=<>+-*/&|to \u00e9";
            char sign = signs.charAt(draws.nextInt(signs.length()));
            if (kind == 0) {
                out.insert(at, sign);
            } else if (kind == 1 && at < out.length()) {
                out.deleteCharAt(at);
            } else if (kind == 2 && at < out.length()) {
                out.setCharAt(at, sign);
            } else if (kind == 3 && upTo(2) == 0) {
                out.setLength(at);
            }
        }
        return out.toString();
    }
}
