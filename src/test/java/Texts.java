import java.util.Random;

/** Texts by chance. */
final class Texts {
    private Texts() {
    }

    private static String blank(Random r) {
        return r.nextInt(12) == 0 ? " " : "";
    }

    private static String item(Random r, char letter, int low, int high) {
        int value = low + r.nextInt(high - low + 1);
        String zero = value < 10 && r.nextInt(10) == 0 ? "0" : "";
        return blank(r) + letter + blank(r) + zero + value;
    }

    /** Crossing house 0 leaves it BARE, as 2 to the 6 times 5 to the 6 and 3 are 1,000,003. */
    static final String SOON_BARE = "sc99m40;pw1;pw2;pw5;pw3;fa1b0n6;fa2b0n6;fa0b3";

    static String village(Random r) {
        if (r.nextInt(12) == 0) {
            return SOON_BARE + (r.nextBoolean() ? ";fa2b1" : ";p;fa4b3n2");
        }
        int houses = 2 + r.nextInt(5);
        StringBuilder s = new StringBuilder();
        int rules = r.nextInt(houses + 1);
        for (int h = 0; h < houses; h++) {
            if (h == rules) {
                s.append("s").append(r.nextInt(3) > 0 ? item(r, 'c', 0, 99) : "").append(r.nextInt(3) > 0 ? item(r, 'm', 1, 99) : "").append(";");
            }
            s.append(blank(r)).append("p").append(r.nextInt(3) > 0 ? item(r, 'w', 1, 9) : "")
                .append(r.nextInt(3) > 0 ? item(r, 't', 0, 9) : "").append(r.nextInt(8) == 0 ? item(r, 'k', 0, 1) : "")
                .append(blank(r)).append(h < houses - 1 ? ";" : "");
        }
        int favours = r.nextInt(13);
        for (int f = 0; f < favours; f++) {
            int a = r.nextInt(houses);
            int b = r.nextInt(houses);
            if (a == b) {
                continue;
            }
            s.append(";f").append(a == 0 && r.nextBoolean() ? "" : "a" + a).append(b == 1 && r.nextBoolean() ? "" : "b" + b)
                .append(r.nextBoolean() ? "" : item(r, 'n', 1, r.nextInt(4) == 0 ? 9 : 2));
        }
        return s.toString();
    }

    static String song(Random r, int houses) {
        int length = r.nextInt(3) == 0 ? 1 + r.nextInt(16) : 1 + r.nextInt(4);
        StringBuilder s = new StringBuilder(blank(r));
        for (int i = 0; i < length; i++) {
            s.append(r.nextInt(60) == 0 ? r.nextInt(10) : r.nextInt(Math.max(1, houses))).append(blank(r));
        }
        return s.toString();
    }

    static String law(Random r) {
        StringBuilder s = new StringBuilder();
        int clauses = 1 + r.nextInt(3);
        for (int i = 0; i < clauses; i++) {
            s.append(i > 0 ? ";" : "").append(blank(r)).append("y").append(blank(r)).append(":");
            if (r.nextInt(3) > 0) {
                s.append(condition(r, 2)).append("?");
            }
            s.append(sum(r, 2));
        }
        return s.length() <= 240 ? s.toString() : "y:i";
    }

    private static String condition(Random r, int depth) {
        String s = truth(r, depth);
        return r.nextInt(4) == 0 ? s + "|" + truth(r, depth) : s;
    }

    private static String truth(Random r, int depth) {
        String s = unit(r, depth);
        return r.nextInt(4) == 0 ? s + blank(r) + "&" + unit(r, depth) : s;
    }

    private static String unit(Random r, int depth) {
        int kind = depth > 0 ? r.nextInt(5) : 4;
        if (kind == 0) {
            return blank(r) + "!" + unit(r, depth - 1);
        }
        if (kind == 1) {
            return "(" + condition(r, depth - 1) + blank(r) + ")";
        }
        return sum(r, depth) + "=<>".charAt(r.nextInt(3)) + sum(r, depth);
    }

    private static String sum(Random r, int depth) {
        String s = term(r, depth);
        return r.nextInt(2) == 0 ? s + "+-".charAt(r.nextInt(2)) + blank(r) + term(r, depth) : s;
    }

    private static String term(Random r, int depth) {
        String s = atom(r, depth);
        return r.nextInt(3) == 0 ? s + "*/".charAt(r.nextInt(2)) + atom(r, depth) : s;
    }

    private static String atom(Random r, int depth) {
        int kind = r.nextInt(6);
        if (kind == 0 && depth > 0) {
            return "[" + sum(r, depth - 1) + blank(r) + "]";
        }
        if (kind == 1) {
            return "" + r.nextInt(r.nextInt(3) == 0 ? 10000 : 12);
        }
        return blank(r) + "iotnwd".charAt(r.nextInt(6));
    }

    /** A text with a sign or more put in, put out or put instead. */
    static String spoilt(Random r, String text) {
        StringBuilder s = new StringBuilder(text);
        String signs = "spfcmwtkabny:;?!()[]|&=<>+-*/iotnwd0123456789   \u00e9\u0001";
        for (int n = 1 + r.nextInt(2); n > 0; n--) {
            int at = r.nextInt(s.length() + 1);
            char sign = signs.charAt(r.nextInt(signs.length()));
            int kind = r.nextInt(4);
            if (kind == 0 && at < s.length()) {
                s.deleteCharAt(at);
            } else if (kind == 1 && at < s.length()) {
                s.setCharAt(at, sign);
            } else if (kind == 2) {
                s.setLength(at);
            } else {
                s.insert(at, sign);
            }
        }
        return s.length() > 240 ? s.substring(0, 240) : s.toString();
    }
}
