import java.util.ArrayList;
import java.util.Arrays;
import java.util.List;
import java.util.TreeSet;

/**
 * A second telling of the document, as slow and as plain as can be, that OracleTest compares the
 * class with. It goes by x and y, copies whole positions, and keeps nothing between calls.
 */
final class Oracle {
    static final String[] PIECES = {"", "king", "queen", "rook", "bishop", "knight", "pawn"};
    static final List<String> KEYWORDS = Arrays.asList("start", "put", "turn", "go", "as", "white", "black",
            "king", "queen", "rook", "bishop", "knight", "pawn");
    static final int[] WORTHS = {0, 0, 10, 5, 3, 4, 1};
    static final int[][] STRAIGHT = {{0, 1}, {1, 0}, {1, -1}, {0, -1}, {-1, 0}, {-1, 1}};
    static final int[][] SLANTING = {{1, 1}, {2, -1}, {1, -2}, {-1, -1}, {-2, 1}, {-1, 2}};
    static final int[][] LEAPS = {{1, 2}, {2, 1}, {3, -1}, {3, -2}, {2, -3}, {1, -3},
            {-1, -2}, {-2, -1}, {-3, 1}, {-3, 2}, {-2, 3}, {-1, 3}};
    static final int[] SIZES = {6, 7, 8, 9, 10, 11, 10, 9, 8, 7, 6};

    static final int[] X = new int[91];
    static final int[] Y = new int[91];
    static final int[] COLUMN = new int[91];
    static final int[] NUMBER = new int[91];

    static {
        int cell = 0;
        for (int c = 0; c < 11; c++) {
            for (int n = 1; n <= SIZES[c]; n++) {
                X[cell] = c - 5;
                Y[cell] = X[cell] < 0 ? n - 6 - X[cell] : n - 6;
                COLUMN[cell] = c;
                NUMBER[cell] = n;
                cell++;
            }
        }
    }

    static int cellAt(int x, int y) {
        for (int c = 0; c < 91; c++) {
            if (X[c] == x && Y[c] == y) {
                return c;
            }
        }
        return -1;
    }

    static String name(int c) {
        return (char) ('a' + COLUMN[c]) + "" + NUMBER[c];
    }

    static int named(String name) {
        for (int c = 0; c < 91; c++) {
            if (name.equals(name(c))) {
                return c;
            }
        }
        return -1;
    }

    /** A position without its past. */
    static final class State {
        final int[] piece = new int[91];
        final int[] side = new int[91];
        int turn;
        int quiet;
        int between = -1;
        int doubled = -1;

        State() {
            Arrays.fill(side, -1);
        }

        State copy() {
            State s = new State();
            System.arraycopy(piece, 0, s.piece, 0, 91);
            System.arraycopy(side, 0, s.side, 0, 91);
            s.turn = turn;
            s.quiet = quiet;
            s.between = between;
            s.doubled = doubled;
            return s;
        }

        void set(int c, int p, int s) {
            piece[c] = p;
            side[c] = p == 0 ? -1 : s;
        }
    }

    State now = new State();
    List<State> past = new ArrayList<>();
    List<Integer> tape = new ArrayList<>();
    int errorAt = -1;

    // ---- rules

    static boolean in(int x, int y) {
        return x >= -5 && x <= 5 && y >= -5 && y <= 5 && x + y >= -5 && x + y <= 5;
    }

    static int up(int side) {
        return side == 0 ? 1 : -1;
    }

    /** The cells that the piece on a cell attacks. */
    static TreeSet<Integer> attackedFrom(State s, int c) {
        TreeSet<Integer> out = new TreeSet<>();
        int p = s.piece[c];
        int x = X[c];
        int y = Y[c];
        if (p == 6) {
            int u = up(s.side[c]);
            addIn(out, x + u, y);
            addIn(out, x - u, y + u);
        }
        if (p == 5) {
            for (int[] l : LEAPS) {
                addIn(out, x + l[0], y + l[1]);
            }
        }
        if (p == 1 || p == 2 || p == 3) {
            for (int[] d : STRAIGHT) {
                ray(s, out, x, y, d, p == 1);
            }
        }
        if (p == 1 || p == 2 || p == 4) {
            for (int[] d : SLANTING) {
                ray(s, out, x, y, d, p == 1);
            }
        }
        return out;
    }

    static void addIn(TreeSet<Integer> out, int x, int y) {
        if (in(x, y)) {
            out.add(cellAt(x, y));
        }
    }

    static void ray(State s, TreeSet<Integer> out, int x, int y, int[] d, boolean once) {
        for (int k = 1; in(x + k * d[0], y + k * d[1]); k++) {
            int c = cellAt(x + k * d[0], y + k * d[1]);
            out.add(c);
            if (once || s.piece[c] != 0) {
                return;
            }
        }
    }

    static int attackers(State s, int cell, int side) {
        int n = 0;
        for (int c = 0; c < 91; c++) {
            if (s.side[c] == side && attackedFrom(s, c).contains(cell)) {
                n++;
            }
        }
        return n;
    }

    static int king(State s, int side) {
        for (int c = 0; c < 91; c++) {
            if (s.piece[c] == 1 && s.side[c] == side) {
                return c;
            }
        }
        return -1;
    }

    static boolean kingAttacked(State s, int side) {
        return attackers(s, king(s, side), 1 - side) > 0;
    }

    static boolean playable(State s) {
        return king(s, 0) >= 0 && king(s, 1) >= 0 && !kingAttacked(s, 1 - s.turn);
    }

    static boolean firstCell(int side, int c) {
        int x = X[c];
        int y = Y[c];
        if (x < -4 || x > 4) {
            return false;
        }
        if (side == 0) {
            return x > 0 ? y == -1 - x : y == -1;
        }
        return x < 0 ? y == 1 - x : y == 1;
    }

    static boolean lastCell(int side, int c) {
        return !in(X[c], Y[c] + up(side));
    }

    static TreeSet<Integer> goals(State s, int c) {
        TreeSet<Integer> out = new TreeSet<>();
        int me = s.side[c];
        for (int t : attackedFrom(s, c)) {
            boolean foe = s.side[t] == 1 - me;
            if (s.piece[c] == 6 ? foe || t == s.between : s.side[t] != me) {
                out.add(t);
            }
        }
        if (s.piece[c] == 6 && in(X[c], Y[c] + up(me))) {
            int one = cellAt(X[c], Y[c] + up(me));
            if (s.piece[one] == 0) {
                out.add(one);
                if (firstCell(me, c)) {
                    int two = cellAt(X[c], Y[c] + 2 * up(me));
                    if (s.piece[two] == 0) {
                        out.add(two);
                    }
                }
            }
        }
        return out;
    }

    static int struck(State s, int from, int to) {
        return s.piece[from] == 6 && to == s.between ? s.doubled : to;
    }

    static State behind(State s, int from, int to, int as) {
        State n = s.copy();
        int p = s.piece[from];
        int hit = struck(s, from, to);
        boolean took = s.piece[hit] != 0;
        n.set(hit, 0, -1);
        n.set(from, 0, -1);
        n.set(to, p == 6 && lastCell(s.turn, to) ? as : p, s.turn);
        n.quiet = p == 6 || took ? 0 : s.quiet + 1;
        n.between = -1;
        n.doubled = -1;
        if (p == 6 && Math.abs(Y[to] - Y[from]) == 2 && X[to] == X[from]) {
            n.between = cellAt(X[from], (Y[from] + Y[to]) / 2);
            n.doubled = to;
        }
        n.turn = 1 - s.turn;
        return n;
    }

    static List<Integer> movesAside(State s) {
        List<Integer> out = new ArrayList<>();
        if (!playable(s)) {
            return out;
        }
        for (int c = 0; c < 91; c++) {
            if (s.side[c] == s.turn) {
                for (int t : goals(s, c)) {
                    if (!kingAttacked(behind(s, c, t, 2), s.turn)) {
                        out.add(91 * c + t);
                    }
                }
            }
        }
        return out;
    }

    static List<Integer> moves(State s) {
        return s.quiet >= 60 ? new ArrayList<>() : movesAside(s);
    }

    static int how(State s) {
        if (!playable(s)) {
            return 5;
        }
        boolean hit = kingAttacked(s, s.turn);
        if (movesAside(s).isEmpty()) {
            return hit ? 2 : 3;
        }
        return s.quiet >= 60 ? 4 : hit ? 1 : 0;
    }

    static int points(State s, int side) {
        int how = how(s);
        if (how == 2) {
            return side == s.turn ? 0 : 4;
        }
        if (how == 3) {
            return side == s.turn ? 1 : 3;
        }
        return how == 4 ? 2 : 0;
    }

    static int pieces(State s, int side) {
        int n = 0;
        for (int c = 0; c < 91; c++) {
            n += s.side[c] == side ? 1 : 0;
        }
        return n;
    }

    static int worth(State s, int side) {
        int n = 0;
        for (int c = 0; c < 91; c++) {
            n += s.side[c] == side ? WORTHS[s.piece[c]] : 0;
        }
        return n;
    }

    // ---- the language

    static final class Token {
        final String text;
        final int at;
        final boolean good;

        Token(String text, int at, boolean good) {
            this.text = text;
            this.at = at;
            this.good = good;
        }

        boolean isName() {
            return good && !text.equals(";") && !KEYWORDS.contains(text);
        }

        boolean isSide() {
            return text.equals("white") || text.equals("black");
        }

        boolean isPiece() {
            return KEYWORDS.indexOf(text) >= 7;
        }

        int piece() {
            return KEYWORDS.indexOf(text) - 6;
        }

        int side() {
            return text.equals("white") ? 0 : 1;
        }
    }

    static final class Wrong extends RuntimeException {
        final int error;
        final int at;

        Wrong(int error, int at) {
            this.error = error;
            this.at = at;
        }
    }

    private List<Token> tokens;
    private int next;

    List<Token> tokens() {
        StringBuilder b = new StringBuilder();
        for (int v : tape) {
            b.append((char) v);
        }
        String t = b.toString();
        List<Token> out = new ArrayList<>();
        int i = 0;
        while (i < t.length()) {
            char c = t.charAt(i);
            if (c == ' ' || c == '\n') {
                i++;
                continue;
            }
            int j = i + 1;
            boolean good = c == ';';
            if (c >= 'a' && c <= 'z') {
                while (j < t.length() && String.valueOf(t.charAt(j)).matches("[a-z0-9]")) {
                    j++;
                }
                good = j - i <= 10;
            }
            out.add(new Token(t.substring(i, j), i, good && out.size() < 400));
            i = j;
        }
        out.add(new Token("", t.length(), false));
        return out;
    }

    Token take(boolean fits) {
        Token t = tokens.get(next);
        if (!fits || !t.good) {
            throw new Wrong(1, t.at);
        }
        next++;
        return t;
    }

    Token peek() {
        return tokens.get(next);
    }

    List<Token[]> lines() {
        tokens = tokens();
        next = 0;
        List<Token[]> out = new ArrayList<>();
        while (next < tokens.size() - 1) {
            List<Token> line = new ArrayList<>();
            Token first = take(Arrays.asList("start", "put", "turn", "go").contains(peek().text));
            line.add(first);
            if (first.text.equals("put")) {
                line.add(take(peek().isSide()));
                line.add(take(peek().isPiece()));
                line.add(take(peek().isName()));
            }
            if (first.text.equals("turn")) {
                line.add(take(peek().isSide()));
            }
            if (first.text.equals("go")) {
                line.add(take(peek().isName()));
                line.add(take(peek().isName()));
                if (peek().text.equals("as")) {
                    line.add(take(true));
                    line.add(take(peek().isPiece()));
                }
            }
            take(peek().text.equals(";"));
            out.add(line.toArray(new Token[0]));
        }
        return out;
    }

    static void set(State s, int piece, String white, String black) {
        s.set(named(white), piece, 0);
        s.set(named(black), piece, 1);
    }

    static State setUp() {
        State s = new State();
        for (int c = 0; c < 91; c++) {
            if (firstCell(0, c)) {
                s.set(c, 6, 0);
            }
            if (firstCell(1, c)) {
                s.set(c, 6, 1);
            }
        }
        set(s, 4, "f1", "f11");
        set(s, 4, "f2", "f10");
        set(s, 4, "f3", "f9");
        set(s, 5, "d1", "d9");
        set(s, 5, "h1", "h9");
        set(s, 3, "c1", "c8");
        set(s, 3, "i1", "i8");
        set(s, 2, "e1", "e10");
        set(s, 1, "g1", "g10");
        return s;
    }

    static void anew(State s, List<State> old) {
        s.quiet = 0;
        s.between = -1;
        s.doubled = -1;
        old.clear();
    }

    /** One that was told a game. */
    static Oracle told(String text) {
        Oracle o = new Oracle();
        for (char c : text.toCharArray()) {
            o.tape.add((int) c);
        }
        if (o.teach() != 0) {
            Check.fail("the oracle finds an error at " + o.errorAt + " in " + text);
        }
        return o;
    }

    int teach() {
        errorAt = -1;
        try {
            State s = new State();
            List<State> old = new ArrayList<>();
            for (Token[] line : lines()) {
                s = carryOut(line, s, old);
            }
            now = s;
            past = old;
            return 0;
        } catch (Wrong w) {
            errorAt = w.at;
            return w.error;
        } finally {
            tape.clear();
        }
    }

    static State carryOut(Token[] line, State s, List<State> old) {
        String what = line[0].text;
        if (what.equals("start")) {
            s = setUp();
            anew(s, old);
        }
        if (what.equals("turn")) {
            s.turn = line[1].side();
            anew(s, old);
        }
        if (what.equals("put")) {
            int side = line[1].side();
            int piece = line[2].piece();
            if (pieces(s, side) >= 20) {
                throw new Wrong(4, line[1].at);
            }
            if (piece == 1 && king(s, side) >= 0) {
                throw new Wrong(3, line[2].at);
            }
            int cell = named(line[3].text);
            if (cell < 0) {
                throw new Wrong(2, line[3].at);
            }
            if (s.piece[cell] != 0) {
                throw new Wrong(3, line[3].at);
            }
            s.set(cell, piece, side);
            anew(s, old);
        }
        if (what.equals("go")) {
            List<Integer> legal = moves(s);
            if (legal.isEmpty()) {
                throw new Wrong(4, line[0].at);
            }
            int from = named(line[1].text);
            if (from < 0) {
                throw new Wrong(2, line[1].at);
            }
            if (legal.stream().noneMatch(m -> m / 91 == from)) {
                throw new Wrong(4, line[1].at);
            }
            int to = named(line[2].text);
            if (to < 0) {
                throw new Wrong(2, line[2].at);
            }
            if (!legal.contains(91 * from + to)) {
                throw new Wrong(4, line[2].at);
            }
            int as = 2;
            if (line.length == 5) {
                as = line[4].piece();
                if (as == 1 || as == 6 || s.piece[from] != 6 || !lastCell(s.turn, to)) {
                    throw new Wrong(5, line[4].at);
                }
            }
            old.add(s);
            s = behind(s, from, to, as);
        }
        return s;
    }

    // ---- the calls

    static void cells(int... cells) {
        for (int c : cells) {
            if (c < 0 || c > 90) {
                throw new IndexOutOfBoundsException();
            }
        }
    }

    int feed(int... five) {
        if (tape.size() + 20 > 2000) {
            throw new IllegalStateException();
        }
        for (int v : five) {
            for (int k = 3; k >= 0; k--) {
                tape.add((int) ((v & 0xFFFFFFFFL) / (1L << 8 * k) % 256));
            }
        }
        return tape.size();
    }

    int trim(int n) {
        if (n < 0 || n > tape.size()) {
            throw new IllegalArgumentException();
        }
        tape = new ArrayList<>(tape.subList(0, n));
        return n;
    }

    int count(int what) {
        switch (what) {
            case 0: return past.size();
            case 1: return now.turn;
            case 2: return how(now);
            case 3: return moves(now).size();
            case 4: return worth(now, 0);
            case 5: return worth(now, 1);
            case 6: return now.quiet;
            case 7: return points(now, 0);
            case 8: return points(now, 1);
            case 9: return now.between;
            case 10: return tape.size();
            default: throw new IndexOutOfBoundsException();
        }
    }

    int cell(int cell, int what) {
        cells(cell);
        switch (what) {
            case 0: return now.piece[cell];
            case 1: return now.side[cell];
            case 2: return (X[cell] - Y[cell] + 30) % 3;
            case 3: return (int) moves(now).stream().filter(m -> m / 91 == cell).count();
            case 4: return attackers(now, cell, 0);
            case 5: return attackers(now, cell, 1);
            default: throw new IndexOutOfBoundsException();
        }
    }

    int at(int column, int number) {
        for (int c = 0; c < 91; c++) {
            if (COLUMN[c] == column && NUMBER[c] == number) {
                return c;
            }
        }
        throw new IndexOutOfBoundsException();
    }

    int nameOf(int cell) {
        cells(cell);
        return 100 * COLUMN[cell] + NUMBER[cell];
    }

    int far(int piece, int from, int to) {
        if (piece < 1 || piece > 5) {
            throw new IllegalArgumentException();
        }
        cells(from, to);
        TreeSet<Integer> seen = new TreeSet<>();
        seen.add(from);
        for (int n = 0; n < 91; n++) {
            if (seen.contains(to)) {
                return n;
            }
            TreeSet<Integer> more = new TreeSet<>(seen);
            for (int c : seen) {
                State s = new State();
                s.set(c, piece, 0);
                more.addAll(attackedFrom(s, c));
            }
            if (more.size() == seen.size()) {
                return -1;
            }
            seen = more;
        }
        return -1;
    }

    boolean legal(int from, int to) {
        cells(from, to);
        return moves(now).contains(91 * from + to);
    }

    int nth(int place) {
        List<Integer> all = moves(now);
        if (place < 0 || place >= all.size()) {
            throw new IndexOutOfBoundsException();
        }
        return all.get(place);
    }

    int move(int from, int to, int as) {
        cells(from, to);
        if (as < 2 || as > 5) {
            throw new IllegalArgumentException();
        }
        if (!legal(from, to)) {
            throw new IllegalStateException();
        }
        int taken = now.piece[struck(now, from, to)];
        past.add(now);
        now = behind(now, from, to, as);
        return taken;
    }

    int back() {
        if (past.isEmpty()) {
            throw new IllegalStateException();
        }
        now = past.remove(past.size() - 1);
        return past.size();
    }

    int lines(int depth) {
        if (depth != 1 && depth != 2) {
            throw new IllegalArgumentException();
        }
        List<Integer> all = moves(now);
        if (depth == 1) {
            return all.size();
        }
        int n = 0;
        for (int m : all) {
            n += moves(behind(now, m / 91, m % 91, 2)).size();
        }
        return n;
    }

    int mate() {
        for (int m : moves(now)) {
            if (how(behind(now, m / 91, m % 91, 2)) == 2) {
                return m;
            }
        }
        return -1;
    }

    int greed() {
        int best = -1;
        int most = -1000;
        for (int m : moves(now)) {
            State s = behind(now, m / 91, m % 91, 2);
            int gain = WORTHS[now.piece[struck(now, m / 91, m % 91)]];
            if (attackers(s, m % 91, s.turn) > 0) {
                boolean became = now.piece[m / 91] == 6 && lastCell(now.turn, m % 91);
                gain -= became ? 10 : WORTHS[now.piece[m / 91]];
            }
            if (gain > most) {
                most = gain;
                best = m;
            }
        }
        return best;
    }

    int hanging(int side) {
        if (side != 0 && side != 1) {
            throw new IndexOutOfBoundsException();
        }
        for (int worth = 10; worth > 0; worth--) {
            for (int c = 0; c < 91; c++) {
                if (now.side[c] == side && now.piece[c] != 1 && WORTHS[now.piece[c]] == worth
                        && attackers(now, c, 1 - side) > 0 && attackers(now, c, side) == 0) {
                    return c;
                }
            }
        }
        return -1;
    }

    double mean() {
        int n = pieces(now, now.turn);
        return n == 0 ? 0 : moves(now).size() / (double) n;
    }

    long digest() {
        List<Long> all = new ArrayList<>();
        for (int i = 0; i < 11; i++) {
            all.add((long) count(i));
        }
        for (int c = 0; c < 91; c++) {
            for (int what : new int[] {0, 1, 4, 5}) {
                all.add((long) cell(c, what));
            }
        }
        for (int m : moves(now)) {
            all.add((long) m);
        }
        long d = 887;
        for (long x : all) {
            d = d * 31 + x;
        }
        return d;
    }
}
