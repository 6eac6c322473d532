import java.util.Random;

/** Makes texts of rows and laws, most of them without a FAULT. */
final class Texts {
    private final Random random;

    Texts(Random random) {
        this.random = random;
    }

    private int below(int n) {
        return random.nextInt(n);
    }

    String row(boolean kerb, int dots) {
        StringBuilder text = new StringBuilder();
        int most = new int[] {1, 3, 10, 40, 99}[below(5)];
        int left = dots + (below(30) == 0 ? below(3) - 1 : 0);
        // A long row must have many DOTS in one VALUE, so that it has room.
        int fewestTimes = dots > 24 ? 2 : 1;
        while (left > 0) {
            int times = Math.min(left, fewestTimes + (below(3) == 0 ? below(8) : 0));
            int value = below(most + 1);
            text.append(text.length() > 0 ? "," : "");
            text.append(kerb && value > 0 && below(2) == 0 ? "-" : "");
            text.append(below(9) == 0 && value < 10 ? "0" : "").append(value);
            text.append(times > 1 ? "*" + (below(9) == 0 && times < 10 ? "0" : "") + times : "");
            left -= times;
        }
        return spoil(text.toString(), "0123456789,,**--x; ", 6);
    }

    String law() {
        int clauses = below(60) == 0 ? 15 + below(4) : 1 + below(7);
        StringBuilder text = new StringBuilder();
        for (int k = 0; k < clauses; k++) {
            String clause = "pdsol".charAt(below(5)) + worth() + "(" + condition(below(3)) + ")";
            if (clauses > 14) {
                clause = "pdsol".charAt(below(5)) + "" + below(99) + "(" + "inkhwtcar".charAt(below(9)) + ">0)";
            }
            if (text.length() + clause.length() + 1 > 240) {
                break;
            }
            text.append(text.length() > 0 ? ";" : "").append(clause);
        }
        return spoil(text.length() == 0 ? "p1(1=1)" : text.toString(), "pdsolinkhwtcar0123456789()[]!&|<>=+-*/%;;x", 6);
    }

    /** A law with sensible numbers, so that nights have dots that are painted and wet. */
    String plainLaw() {
        String law = "p" + (1 + below(3)) + (below(2) == 0 ? "+i%2" : "") + "(1=1);d" + below(9)
                + (below(2) == 0 ? "+h" : "") + (below(3) == 0 ? "+t%5" : "") + "(i<" + (4 + below(30)) + ");d"
                + below(30) + "(a=" + below(2) + ")";
        law += ";s" + below(9) + "(c<" + below(9) + ");s" + below(12) + "(1=1)";
        law += ";o" + below(60) + "-w(r=0);o" + below(50) + "(k>" + below(5) + ")";
        return law + ";l" + below(99) + "-30*r(t>" + below(20) + ")";
    }

    private String worth() {
        return below(2) == 0 ? "" + below(new int[] {3, 10, 100}[below(3)]) : sum(below(3));
    }

    private String sum(int depth) {
        StringBuilder text = new StringBuilder(term(depth));
        while (below(3) == 0) {
            text.append("+-".charAt(below(2))).append(term(depth));
        }
        return text.toString();
    }

    private String term(int depth) {
        StringBuilder text = new StringBuilder(factor(depth));
        while (below(4) == 0) {
            text.append("*/%".charAt(below(3))).append(factor(depth));
        }
        return text.toString();
    }

    private String factor(int depth) {
        if (depth > 0 && below(3) == 0) {
            return "[" + sum(depth - 1) + "]";
        }
        if (below(2) == 0) {
            return "" + "inkhwtcar".charAt(below(9));
        }
        return "" + below(new int[] {3, 20, 100, 99999}[below(4)]);
    }

    private String condition(int depth) {
        StringBuilder text = new StringBuilder(piece(depth));
        while (below(3) == 0) {
            text.append("&|".charAt(below(2))).append(piece(depth));
        }
        return text.toString();
    }

    private String piece(int depth) {
        if (depth > 0 && below(3) == 0) {
            return "(" + condition(depth - 1) + ")";
        }
        if (depth > 0 && below(4) == 0) {
            return "!" + piece(depth - 1);
        }
        return sum(below(2)) + "<>=".charAt(below(3)) + sum(below(2));
    }

    /** One text in so many is changed at a place or cut off there. */
    private String spoil(String text, String signs, int oneIn) {
        if (below(oneIn) != 0 || text.isEmpty()) {
            return text;
        }
        StringBuilder spoilt = new StringBuilder(text);
        int at = below(text.length());
        char sign = signs.charAt(below(signs.length()));
        switch (below(5)) {
            case 0:
                spoilt.setCharAt(at, sign);
                break;
            case 1:
                spoilt.insert(at, sign);
                break;
            case 2:
                spoilt.deleteCharAt(at);
                break;
            case 3:
                for (int k = below(8); k >= 0; k--) {
                    spoilt.insert(at, sign);
                }
                break;
            default:
                spoilt.setLength(at);
                break;
        }
        return spoilt.toString();
    }
}
