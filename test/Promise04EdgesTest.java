import java.util.Arrays;
import java.util.List;

/** Promise 4, at its boundaries: teach, and the sentences of "The language" on what a game is. */
public final class Promise04EdgesTest {
    private static final List<String> KEYWORDS = Arrays.asList("start", "put", "turn", "go", "as", "white", "black",
            "king", "queen", "rook", "bishop", "knight", "pawn");

    public static void main(String[] args) {
        emptyTape();
        fullTape();
        inThePlaceOfAll();
        allStays();
        between();
        longestToken();
        lengthOfWords();
        everyByteInAWord();
        keywords();
        numberOfTokens();
        cellNames();
        emptyCells();
        secondKings();
        twentyPieces();
        noMove();
        sixtyQuietMoves();
        becoming();
        behindLines();
        Check.end();
    }

    private static void error(String text, int error) {
        HexCabinet x = new HexCabinet();
        Check.due("teach() of " + text, Check.teach(x, text), error);
    }

    /** "game = { line ";" }", "{ x } x any number of times, also none" */
    private static void emptyTape() {
        Check.due("teach() of an empty tape", new HexCabinet().teach(), 0);
        error("", 0);
        error(" ", 0);
        error("\n", 0);
        error(";", 1);
        error("start;", 0);
        error("start;start;", 0);
        // Behind a game an empty tape is an empty board.
        HexCabinet x = Check.told("start; turn black;");
        Check.due("teach()", x.teach(), 0);
        Check.alike("an empty tape", x, new HexCabinet());
    }

    /** "The tape is a row of at most 2000 bytes": all of them are read. */
    private static void fullTape() {
        HexCabinet x = new HexCabinet();
        Check.feed(x, Check.times(" ", 1989) + "turn black;");
        Check.due("teach() of 2000 bytes", x.teach(), 0);
        Check.due("count(1)", x.count(1), 1);
        Check.feed(x, Check.times("\n", 1990) + "turn white");
        Check.due("teach() without the last byte", x.teach(), 1);
        Check.due("errorAt()", x.errorAt(), 2000);
        Check.feed(x, Check.times(" ", 1999) + "?");
        Check.due("teach() with an error in the last byte", x.teach(), 1);
        Check.due("errorAt()", x.errorAt(), 1999);
        Check.feed(x, Check.times(" ", 2000));
        Check.due("teach() of 2000 blanks", x.teach(), 0);
    }

    /** "in the place of all that was there", "from an empty board with white on turn" */
    private static void inThePlaceOfAll() {
        String[] games = {"", "start;", "turn black;", "put white king a1;", "put black king k6; turn black;",
            "start; go f5 f6;", "put white king a1; put black king k6; go a1 a2;"};
        for (String game : games) {
            HexCabinet x = Check.busy();
            x.trim(0);
            Check.due("teach() of " + game, Check.teach(x, game), 0);
            Check.alike(game, x, Check.told(game));
        }
        // What stood there does not hinder what is put.
        HexCabinet x = Check.told("put white king a1;");
        Check.due("the same again", Check.teach(x, "put white king a1;"), 0);
        Check.due("count(3)", Check.teach(x, "go a1 a2;"), 4);
    }

    /** "If it has an error, all stays (but the tape is empty)." */
    private static void allStays() {
        String[] texts = {"?", "start; put black king f6", "put white king a1; put black king l1;",
            "put white king a1; put white king a2;", "start; turn black; go f5 f6;", "start; go f5 f6 as rook;",
            "turn black; go a1 a2;", "start; go b1 b3; go b7 b5; go a1 a2;"};
        int[] errors = {1, 1, 2, 3, 4, 5, 4, 4};
        for (int i = 0; i < texts.length; i++) {
            HexCabinet x = Check.busy();
            x.trim(0);
            Check.due("teach() of " + texts[i], Check.teach(x, texts[i]), errors[i]);
            Check.due("count(10) behind " + texts[i], x.count(10), 0);
            Check.due("errorAt() is not that of before behind " + texts[i], x.errorAt() == 7 ? 1 : 0, 0);
            HexCabinet twin = Check.busy();
            twin.trim(0);
            // An error of its own at the same place, so that all can be compared.
            Check.due("teach() of the twin", Check.teach(twin, Check.times(" ", x.errorAt()) + "!"), 1);
            Check.alike(texts[i], x, twin);
        }
    }

    /** "can stand between tokens, at the beginning and at the end, and have to stand between two tokens ..." */
    private static void between() {
        error("turn black;turn white;", 0);
        error("turn\nblack\n;\nturn  white \n ;", 0);
        error("  turn black;", 0);
        error("\nturn black;  \n", 0);
        error("turnblack;", 1);
        error("put white king a1;put black king k6;go a1 a2;", 0);
        error("put white king a1;put black king k6;go a1a2;", 1);
        error("putwhite king a1;", 1);
        error("put whiteking a1;", 1);
        error("put white kinga1;", 1);
        error("tu rn black;", 1);
        error("put white king a 1;", 1);
        error("put white king e1 0;", 1);
    }

    /** "The longest possible token is always read." */
    private static void longestToken() {
        error("put white king a11;", 2);
        error("put white king f1;", 0);
        error("put white king f11;", 0);
        error("put white king f111;", 2);
        error("put white king f1f2;", 2);
        error("start1;", 1);
        error("startstart;", 1);
        error("turn black1;", 1);
        error("put white kings a1;", 1);
        error("put white king as;", 1);
        error("put white king asa;", 2);
        error("go a1 a2 asqueen;", 1);
    }

    /** "A word: a letter a to z, followed by letters a to z and digits, at most 10 bytes." */
    private static void lengthOfWords() {
        String[] words = {"a", "zz", "z9", "a23456789", "abcdefghi", "a234567890", "abcdefghij", "a000000001"};
        for (String word : words) {
            error("put white king " + word + ";", 2);
        }
        String[] tooLong = {"a2345678901", "abcdefghijk", "a0000000001", "startstarts", Check.times("a", 300)};
        for (String word : tooLong) {
            error("put white king " + word + ";", 1);
        }
        String[] noWords = {"1", "1a", "0", "A1", "a_1", "-a1", "a-1"};
        for (String word : noWords) {
            error("put white king " + word + ";", 1);
        }
    }

    /** The same, for all 256 bytes: which of them begin a word, and which go on with one. */
    private static void everyByteInAWord() {
        for (int b = 0; b < 256; b++) {
            boolean blank = b == 32 || b == 10;
            boolean letter = b >= 'a' && b <= 'z';
            boolean digit = b >= '0' && b <= '9';
            HexCabinet first = new HexCabinet();
            int error = Check.teach(first, "put white king " + (char) b + "1;");
            Check.due("teach() with a word that begins with " + b, error, !letter ? 1 : b <= 'k' ? 0 : 2);
            Check.due("errorAt() of it", first.errorAt(), blank ? 16 : letter && b <= 'k' ? -1 : 15);
            HexCabinet next = new HexCabinet();
            error = Check.teach(next, "put white king e" + (char) b + "1;");
            Check.due("teach() with a word that goes on with " + b, error, letter || digit ? 2 : 1);
            Check.due("errorAt() of it", next.errorAt(), letter || digit ? 15 : blank || b == ';' ? 17 : 16);
        }
    }

    /** "The keywords are: ... All other words are names." */
    private static void keywords() {
        for (String word : KEYWORDS) {
            error("put white king " + word + ";", 1);
            error("go " + word + " a1;", 1);
            error("go a1 " + word + ";", 1);
            // With a byte more or less it is a name, though not that of a cell.
            error("put white king " + word + "x;", 2);
            error("put white king x" + word + ";", 2);
            String less = word.substring(0, word.length() - 1);
            error("put white king " + less + ";", 2);
            boolean line = word.equals("start");
            error(word + ";", line ? 0 : 1);
            boolean side = word.equals("white") || word.equals("black");
            error("turn " + word + ";", side ? 0 : 1);
            error("put " + word + " king a1;", side ? 0 : 1);
            boolean piece = KEYWORDS.indexOf(word) >= KEYWORDS.indexOf("king");
            error("put white " + word + " a1;", piece ? 0 : 1);
            error("put white king a1; put black king k6; go a1 a2 as " + word + ";", piece ? 5 : 1);
        }
    }

    /** "the token that would be the 401st (the end of the tape not counted)" */
    private static void numberOfTokens() {
        String most = Check.times("start;", 199);
        error(most, 0);
        error(most + "start;", 0);
        error(most + "start; ", 0);
        error(most + "start;start;", 1);
        error(most + "start;?", 1);
        // 399 and 400 tokens that are no game yet: it is the end of the tape that is wrong.
        HexCabinet x = new HexCabinet();
        Check.due("teach() of 399 tokens", Check.teach(x, most + "start"), 1);
        Check.due("errorAt()", x.errorAt(), most.length() + 5);
        Check.due("teach() of 400 tokens", Check.teach(x, most.substring(6) + "turn white;start"), 1);
        Check.due("errorAt()", x.errorAt(), most.length() + 10);
        Check.due("teach() of 401 tokens", Check.teach(x, most.substring(6) + "turn white;start;"), 1);
        Check.due("errorAt()", x.errorAt(), most.length() + 10);
        // Error 1 goes first, wherever it stands: the other errors are not looked for.
        error("go a1 a2;" + most.substring(12) + "start;", 4);
        error("go a1 a2;" + most.substring(6) + "start;", 1);
    }

    /** "counted in each from 1 on, from below", "without zeros ahead of it, as f11"; "Error 2" */
    private static void cellNames() {
        int[] sizes = {6, 7, 8, 9, 10, 11, 10, 9, 8, 7, 6};
        int cell = 0;
        for (int column = 0; column < 11; column++) {
            char letter = (char) ('a' + column);
            for (int number = 1; number <= sizes[column]; number++) {
                HexCabinet x = Check.told("put white rook " + letter + number + ";");
                Check.due("piece on " + letter + number, x.cell(cell, 0), 3);
                cell++;
            }
            String[] wrong = {"0", "00", "01", "06", "011", "" + (sizes[column] + 1), "12", "100", "", "1a",
                "4294967297", "429496729", "999999999"};
            for (String number : wrong) {
                error("put white rook " + letter + number + ";", number.length() == 10 ? 1 : 2);
            }
        }
        error("put white rook l1;", 2);
        error("put white rook z6;", 2);
        error("put white rook aa1;", 2);
    }

    /** "Error 3: the cell behind put is not empty (at its name)" */
    private static void emptyCells() {
        error("put white rook a1; put white rook a2;", 0);
        error("put white rook a1; put white rook a1;", 3);
        error("put white rook a1; put black rook a1;", 3);
        error("start; put white rook a1;", 0);
        error("start; put white rook b1;", 3);
        // A cell from which a piece went is empty, the one to which it came is not.
        error("start; go b1 b3; put white rook b1;", 0);
        error("start; go b1 b3; put white rook b2;", 0);
        error("start; go b1 b3; put white rook b3;", 3);
    }

    /** "or the king behind put is a second one of this side (at king)" */
    private static void secondKings() {
        error("put white king a1; put black king a2;", 0);
        error("put white king a1; put white king a2;", 3);
        error("put black king a1; put black king a2;", 3);
        error("start; put black king a1;", 3);
        error("put white king a1; start; put white queen a1;", 0);
        // A set-up is in the place of the kings that were there.
        error("put white king a1; put black king a2; start;", 0);
    }

    private static String pawns(String side, int n) {
        StringBuilder b = new StringBuilder();
        for (int i = 0; i < n; i++) {
            b.append("put ").append(side).append(" pawn ").append((char) ('a' + i % 11)).append(1 + i / 11).append(";");
        }
        return b.toString();
    }

    /** "Error 4: at the side behind put, if this side has 20 pieces" */
    private static void twentyPieces() {
        String[] sides = {"white", "black"};
        for (String side : sides) {
            String other = side.equals("white") ? "black" : "white";
            error(pawns(side, 19) + "put " + side + " pawn f6;", 0);
            error(pawns(side, 20) + "put " + side + " pawn f6;", 4);
            error(pawns(side, 20) + "put " + other + " pawn f6;", 0);
            error(pawns(side, 20) + "start;", 0);
            // There are 18 pieces of each side in the set-up.
            String start = "start; put " + side + " rook a1; put " + side + " rook a2;";
            error(start, 0);
            error(start + "put " + side + " rook a3;", 4);
            error(start + "put " + other + " rook a3; put " + other + " rook a4;", 0);
        }
        // One of 20 is taken: there is room for one again.
        String full = "put white king a6; put white rook f6; put black king k5;" + pawns("black", 19);
        error(full, 0);
        error(full + "put black pawn f8;", 4);
        error(full + "go f6 f5; turn white;", 0);
        error(full + "go f6 f5; put black pawn f8;", 4);
        error(full + "go f6 f2; put black pawn f8;", 0);
        HexCabinet x = Check.told(pawns("white", 20));
        Check.due("worth of 20 pawns", x.count(4), 20);
    }

    /** "at go, if there is no legal move; at its first name, ...; at its second one, ...", "Error 5" */
    private static void noMove() {
        String kings = "put white king a1; put black king k6;";
        error("go a1 a2;", 4);
        error("put white king a1; go a1 a2;", 4);
        error(kings + "go a1 a2;", 0);
        error(kings + "turn black; go a1 a2;", 4);
        error(kings + "go k6 k5;", 4);
        error(kings + "go a1 a3;", 4);
        error(kings + "go a1 l1;", 2);
        error(kings + "go l1 a1;", 2);
        error(kings + "go a1 a2; go a2 a3;", 4);
        error(kings + "go a1 a2; go k6 k5; go a2 a3;", 0);
        // Mate and stalemate: no move is there.
        error("put white king c3; put white queen b2; put black king a1; turn black; go a1 a2;", 4);
        error("put white king c3; put black king a1; turn black; go a1 a2;", 4);
        error("put white king c3; put black king a1; go c3 d4;", 0);
    }

    /** "Quiet moves: moves since a pawn went or something was taken; with 60 it is over." */
    private static void sixtyQuietMoves() {
        String pieces = "put white king a1;put black king k6;put white pawn f5;";
        String over = pieces + Check.quietMoves(60);
        error(pieces + Check.quietMoves(59), 0);
        error(over, 0);
        error(pieces + Check.quietMoves(61), 4);
        error(over + "go f5 f6;", 4);
        error(pieces + Check.quietMoves(58) + "go f5 f6; go k5 k6;", 0);
        // "Behind start, put and turn ... the quiet moves begin with 0."
        error(over + "turn white; go a1 a2;", 0);
        error(over + "put white pawn b1; go a1 a2;", 0);
        error(over + "start; go f5 f6;", 0);
    }

    /** "A pawn that comes to one of them becomes another piece at once ... (a queen, if nothing is said)"; "Error 5" */
    private static void becoming() {
        String kings = "put white king a1; put black king k5;";
        for (String word : KEYWORDS.subList(7, 13)) {
            boolean fits = !word.equals("king") && !word.equals("pawn");
            error(kings + "put white pawn e9; go e9 e10 as " + word + ";", fits ? 0 : 5);
            error(kings + "put black pawn e2; turn black; go e2 e1 as " + word + ";", fits ? 0 : 5);
            error(kings + "put white pawn e8; go e8 e9 as " + word + ";", 5);
            error(kings + "put white rook e9; go e9 e10 as " + word + ";", 5);
            error(kings + "put black pawn e9; turn black; go e9 e8 as " + word + ";", 5);
        }
        HexCabinet x = Check.told(kings + "put white pawn e9; go e9 e10;");
        Check.due("a queen", x.cell(Check.cell("e10"), 0), 2);
        x = Check.told(kings + "put white pawn e9; go e9 e10 as bishop;");
        Check.due("a bishop", x.cell(Check.cell("e10"), 0), 4);
        x = Check.told(kings + "put white pawn e8; go e8 e9;");
        Check.due("still a pawn", x.cell(Check.cell("e9"), 0), 6);
    }

    /** "Behind start, put and turn no move can be taken back, no pawn be taken in passing ..." */
    private static void behindLines() {
        String game = "put white king a1; put black king k6; put white pawn f6; put black pawn g7; turn black;";
        error(game + "go g7 g5; go f6 g6;", 0);
        error(game + "go g7 g5; turn white; go f6 g6;", 4);
        error(game + "go g7 g5; put white pawn b1; go f6 g6;", 4);
        String[] behind = {"start;", "put white pawn b1;", "turn white;", "turn black;"};
        for (String line : behind) {
            HexCabinet x = Check.told(game + "go g7 g5;" + line);
            Check.due("count(0) behind " + line, x.count(0), 0);
            Check.due("count(9) behind " + line, x.count(9), -1);
            Check.noState("back() behind " + line, x::back);
            HexCabinet q = Check.told(game + "go k6 k5; go a1 a2;" + line);
            Check.due("count(6) behind " + line, q.count(6), 0);
            HexCabinet go = Check.told(game + line + "go " + (line.startsWith("start") ? "f5 f6;"
                    : line.equals("turn white;") ? "a1 a2;" : "k6 k5;"));
            Check.due("count(0) behind a go", go.count(0), 1);
            Check.due("back()", go.back(), 0);
        }
    }
}
