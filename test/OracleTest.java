import java.util.ArrayList;
import java.util.List;

/** Compares the class with Oracle on made-up runs of calls, always the same ones. */
public final class OracleTest {
    private static long seed;

    private static int pick(int n) {
        seed = seed * 6364136223846793005L + 1442695040888963407L;
        return (int) ((seed >>> 33) % n);
    }

    private static boolean oneIn(int n) {
        return pick(n) == 0;
    }

    private interface Answer {
        Object get();
    }

    private static Object answer(Answer a) {
        try {
            return a.get();
        } catch (RuntimeException e) {
            return e.getClass().getSimpleName();
        }
    }

    private static void same(int run, String call, Answer got, Answer want) {
        Object g = answer(got);
        Object w = answer(want);
        if (!g.equals(w)) {
            Check.fail("run " + run + ": " + call + " answered " + g + ", the oracle " + w);
        }
    }

    // ---- texts

    private static String put(int side, int piece, int cell) {
        return "put " + (side == 0 ? "white" : "black") + " " + Oracle.PIECES[piece] + " " + Oracle.name(cell) + ";";
    }

    /** A position: kings mostly, and up to 14 other pieces of each side. */
    private static String position() {
        StringBuilder b = new StringBuilder();
        Oracle.State s = new Oracle.State();
        int most = oneIn(4) ? 14 : 5;
        for (int side = 0; side < 2; side++) {
            int n = 1 + pick(most);
            for (int i = 0; i < n; i++) {
                int piece = i == 0 && !oneIn(20) ? 1 : oneIn(2) ? 6 : 2 + pick(4);
                int cell = pick(91);
                if (s.piece[cell] == 0) {
                    s.set(cell, piece, side);
                    b.append(put(side, piece, cell));
                }
            }
        }
        if (oneIn(2)) {
            b.append(oneIn(2) ? "turn black;" : "turn white;");
        }
        return b.toString();
    }

    /** Few pieces near a corner, where mates and stalemates are; or a double step close to slow kings. */
    private static String endgame() {
        StringBuilder b = new StringBuilder();
        Oracle.State s = new Oracle.State();
        int strong = pick(2);
        int corner = new int[] {0, 5, 40, 50, 85, 90}[pick(6)];
        int[] pieces = {1, 1, 2 + pick(2), 2 + pick(5), 6, 6, 6};
        int[] sides = {strong, 1 - strong, strong, strong, 1 - strong, strong, 1 - strong};
        int n = 3 + pick(5);
        for (int i = 0; i < n; i++) {
            int cell = i == 1 && !oneIn(3) ? corner : near(i < 3 ? corner : pick(91));
            if (s.piece[cell] == 0) {
                s.set(cell, pieces[i], sides[i]);
                b.append(put(sides[i], pieces[i], cell));
            }
        }
        return b + (oneIn(2) ? "turn black;" : "");
    }

    private static int near(int cell) {
        int to = Oracle.cellAt(Oracle.X[cell] + pick(9) - 4, Oracle.Y[cell] + pick(9) - 4);
        return to < 0 ? pick(91) : to;
    }

    /** Behind a text without error, moves that are legal or nearly so. */
    private static String moves(String text, int most) {
        Oracle o = new Oracle();
        for (char c : text.toCharArray()) {
            o.tape.add((int) c);
        }
        if (o.teach() != 0) {
            return text;
        }
        StringBuilder b = new StringBuilder(text);
        int n = pick(most + 1);
        for (int i = 0; i < n; i++) {
            List<Integer> legal = Oracle.moves(o.now);
            if (legal.isEmpty()) {
                break;
            }
            int m = legal.get(pick(legal.size()));
            b.append("go ").append(Oracle.name(m / 91)).append(' ').append(Oracle.name(m % 91));
            int as = 2;
            boolean last = o.now.piece[m / 91] == 6 && Oracle.lastCell(o.now.turn, m % 91);
            if (last && oneIn(2) || oneIn(60)) {
                as = oneIn(8) ? 1 + 5 * pick(2) : 2 + pick(4);
                b.append(" as ").append(Oracle.PIECES[as]);
            }
            b.append(oneIn(5) ? " ;\n" : ";");
            o.now = Oracle.behind(o.now, m / 91, m % 91, as);
        }
        return b.toString();
    }

    private static String spoiled(String text) {
        String[] bits = {"", " ", ";", "a1", "f11", "f12", "a0", "a01", "l1", "k6", "x", "start", "put", "go", "as",
            "turn", "white", "black", "king", "queen", "rook", "bishop", "knight", "pawn", "abcdefghij",
            "abcdefghijk", "1", "A", "\n", "\t", "\u00e9", "go e4 e5;", "put white king a1;", "put black pawn b7;"};
        List<String> parts = new ArrayList<>();
        java.util.regex.Matcher m = java.util.regex.Pattern.compile("[a-z0-9]+|[^a-z0-9]").matcher(text);
        while (m.find()) {
            parts.add(m.group());
        }
        int n = 1 + pick(3);
        for (int i = 0; i < n && !parts.isEmpty(); i++) {
            int at = pick(parts.size());
            if (parts.get(at).matches("[a-k][0-9]+") && !oneIn(3)) {
                parts.set(at, oneIn(4) ? bits[pick(10)] : Oracle.name(pick(91)));
            } else if (oneIn(3)) {
                parts.add(at, bits[pick(bits.length)]);
            } else if (oneIn(2)) {
                parts.remove(at);
            } else {
                parts.set(at, bits[pick(bits.length)]);
            }
        }
        return String.join("", parts);
    }

    private static String text() {
        int kind = pick(10);
        String t = kind < 3 ? moves("start;", 20) : kind < 6 ? moves(position(), 12)
                : kind < 9 ? moves(endgame(), 12) : "start; " + position();
        if (oneIn(6)) {
            t = t + position();
        }
        if (oneIn(3)) {
            t = spoiled(t);
        }
        return t.length() > 1980 ? t.substring(0, 1980) : t;
    }

    private static void tell(int run, HexCabinet x, Oracle o, String text) {
        for (int i = 0; i < text.length(); i += 20) {
            int a = Check.four(text, i);
            int b = Check.four(text, i + 4);
            int c = Check.four(text, i + 8);
            int d = Check.four(text, i + 12);
            int e = Check.four(text, i + 16);
            same(run, "feed", () -> x.feed(a, b, c, d, e), () -> o.feed(a, b, c, d, e));
        }
        int n = text.length();
        same(run, "trim", () -> x.trim(n), () -> o.trim(n));
        same(run, "teach of " + text, x::teach, o::teach);
        same(run, "errorAt behind " + text, x::errorAt, () -> o.errorAt);
    }

    private static int cell() {
        return oneIn(40) ? pick(200) - 60 : pick(91);
    }

    private static void makeMove(int run, HexCabinet x, Oracle o) {
        List<Integer> legal = Oracle.moves(o.now);
        int m = legal.isEmpty() || oneIn(10) ? 91 * pick(91) + pick(91) : legal.get(pick(legal.size()));
        int as = oneIn(12) ? pick(8) - 1 : 2 + pick(4);
        same(run, "move " + m + " " + as, () -> x.move(m / 91, m % 91, as), () -> o.move(m / 91, m % 91, as));
    }

    private static void ask(int run, HexCabinet x, Oracle o) {
        int a = cell();
        int b = cell();
        int w = pick(14) - 1;
        int v = pick(8) - 1;
        switch (pick(15)) {
            case 0: same(run, "count " + w, () -> x.count(w), () -> o.count(w)); break;
            case 1: same(run, "cell " + a + " " + v, () -> x.cell(a, v), () -> o.cell(a, v)); break;
            case 2: same(run, "at " + w + " " + w, () -> x.at(w, v), () -> o.at(w, v)); break;
            case 3: same(run, "name " + a, () -> x.name(a), () -> o.nameOf(a)); break;
            case 4: same(run, "legal " + a + " " + b, () -> x.legal(a, b), () -> o.legal(a, b)); break;
            case 5: same(run, "nth " + a, () -> x.nth(a), () -> o.nth(a)); break;
            case 6: same(run, "lines 1", () -> x.lines(1), () -> o.lines(1)); break;
            case 7: same(run, "mate", x::mate, o::mate); break;
            case 8: same(run, "greed", x::greed, o::greed); break;
            case 9: same(run, "hanging " + v, () -> x.hanging(v), () -> o.hanging(v)); break;
            case 10: same(run, "mean", x::mean, o::mean); break;
            case 11: same(run, "trim " + w, () -> x.trim(w), () -> o.trim(w)); break;
            case 12: same(run, "back", x::back, o::back); break;
            case 13:
                if (oneIn(15)) {
                    same(run, "lines 2", () -> x.lines(2), () -> o.lines(2));
                }
                break;
            default: same(run, "far " + v, () -> x.far(v, a, b), () -> o.far(v, a, b)); break;
        }
    }

    public static void main(String[] args) {
        int runs = args.length > 0 ? Integer.parseInt(args[0]) : 300;
        int first = args.length > 1 ? Integer.parseInt(args[1]) : 1;
        for (int run = first; run < first + runs; run++) {
            seed = run * 7919L + 17;
            HexCabinet x = new HexCabinet();
            Oracle o = new Oracle();
            for (int told = 0; told < 3; told++) {
                tell(run, x, o, text());
                same(run, "digest", x::digest, o::digest);
                for (int i = 0; i < 12; i++) {
                    makeMove(run, x, o);
                    ask(run, x, o);
                    ask(run, x, o);
                }
                same(run, "digest", x::digest, o::digest);
            }
        }
        Check.end();
    }
}
