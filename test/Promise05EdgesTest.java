/** Promise 5, at its boundaries: errorAt, and the sentences of "The language" on where an error is told. */
public final class Promise05EdgesTest {
    private static final String KINGS = "put white king a1; put black king k6; ";

    public static void main(String[] args) {
        none();
        latest();
        refusedCalls();
        firstByte();
        endOfTape();
        badBytes();
        longWords();
        token401();
        errorOneFirst();
        leftToRight();
        atPut();
        atGo();
        atAs();
        smallestNumber();
        asItIsByThen();
        Check.end();
    }

    /** "-1 if it had none, or there was none." */
    private static void none() {
        HexCabinet x = new HexCabinet();
        Check.due("errorAt() without a teach()", x.errorAt(), -1);
        Check.feed(x, "?");
        Check.due("errorAt() with a tape that was not read", x.errorAt(), -1);
        x.trim(0);
        Check.due("teach()", x.teach(), 0);
        Check.due("errorAt() behind an empty tape", x.errorAt(), -1);
        Check.due("teach()", Check.teach(x, "start;"), 0);
        Check.due("errorAt() behind a game", x.errorAt(), -1);
    }

    /** "the error of the latest teach()": of no earlier one, and until the next one. */
    private static void latest() {
        HexCabinet x = new HexCabinet();
        Check.teach(x, "?");
        Check.due("errorAt() of the first", x.errorAt(), 0);
        Check.teach(x, "start;?");
        Check.due("errorAt() of the second", x.errorAt(), 6);
        Check.teach(x, "start");
        Check.due("errorAt() of the third", x.errorAt(), 5);
        Check.teach(x, "start;");
        Check.due("errorAt() of one without", x.errorAt(), -1);
        Check.teach(x, "start; go a1 a2;");
        Check.due("errorAt() of the next", x.errorAt(), 10);
        // All other calls leave it.
        Check.feed(x, "start;");
        x.trim(0);
        Check.due("errorAt() behind feed and trim", x.errorAt(), 10);
        Check.go(x, "f5", "f6");
        Check.due("errorAt() behind move", x.errorAt(), 10);
        x.back();
        Check.due("errorAt() behind back", x.errorAt(), 10);
        Check.seen(x);
        Check.due("errorAt() behind questions", x.errorAt(), 10);
        Check.due("errorAt() again", x.errorAt(), 10);
        x.teach();
        Check.due("errorAt() behind an empty tape", x.errorAt(), -1);
    }

    /** "A method that throws an exception changes nothing": nor where the error was. */
    private static void refusedCalls() {
        HexCabinet x = new HexCabinet();
        Check.teach(x, "start; stop;");
        Check.noArgument("trim(1)", () -> x.trim(1));
        Check.noState("back()", x::back);
        Check.noState("move(0, 1, 2)", () -> x.move(0, 1, 2));
        Check.due("errorAt()", x.errorAt(), 7);
    }

    /** "The position is that of its first byte.", "Positions of the tape are counted from 0, in bytes." */
    private static void firstByte() {
        Check.error("stop;", 1, 0);
        Check.error(" stop;", 1, 1);
        Check.error("\n\n stop;", 1, 3);
        Check.error("start;stop;", 1, 6);
        Check.error("turn \n whitee;", 1, 7);
        Check.error("put white king \n\n a7 ;", 2, 18);
    }

    /** "the end of the tape (at its length)" */
    private static void endOfTape() {
        String[] lines = {"start", "put", "put white", "put white king", "put white king a1", "turn", "turn white", "go",
            "go a1", "go a1 a2", "go a1 a2 as", "go a1 a2 as queen", "start;turn", "start;start"};
        for (String line : lines) {
            Check.error(line, 1, line.length());
            Check.error(line + " ", 1, line.length() + 1);
            Check.error(line + "\n \n", 1, line.length() + 3);
        }
        int[] lengths = {5, 6, 1980, 1999, 2000};
        for (int length : lengths) {
            Check.error("start" + Check.times(" ", length - 5), 1, length);
            Check.error(Check.times(" ", length - 5) + "start", 1, length);
        }
        // What trim cut off does not count with it.
        HexCabinet x = new HexCabinet();
        Check.feed(x, "start;");
        x.trim(5);
        x.teach();
        Check.due("errorAt() behind trim(5)", x.errorAt(), 5);
    }

    /** "a byte with which no token begins" */
    private static void badBytes() {
        Check.error("start?;", 1, 5);
        Check.error("start ?;", 1, 6);
        Check.error("start;0", 1, 6);
        Check.error("put white king A1;", 1, 15);
        Check.error("put white king a1?;", 1, 17);
        Check.error("go a1 a2 as queen\t;", 1, 17);
        Check.error("start;\r", 1, 6);
        Check.error("start;\u00e4", 1, 6);
        Check.error("start;\u0000", 1, 6);
    }

    /** "a word that is too long": at its first byte, also if a shorter one would stand there rightly. */
    private static void longWords() {
        Check.error("put white king abcdefghij;", 2, 15);
        Check.error("put white king abcdefghijk;", 1, 15);
        Check.error("start; startstarts;", 1, 7);
        Check.error("go a1 a1234567890;", 1, 6);
        Check.error("go a1 a123456789;", 4, 0);
        Check.error(Check.times("a", 2000), 1, 0);
    }

    /** "the token that would be the 401st (the end of the tape not counted)" */
    private static void token401() {
        String most = Check.times("start;", 200);
        Check.error(most + "start;", 1, 1200);
        Check.error(most + " \n start;", 1, 1203);
        Check.error(most + "?", 1, 1200);
        Check.error(most + Check.times("a", 11), 1, 1200);
        Check.error(most + "start;start;start;", 1, 1200);
        HexCabinet x = new HexCabinet();
        Check.teach(x, most + "  ");
        Check.due("errorAt() with 400 tokens", x.errorAt(), -1);
        // One word is the 400th, and what would be right behind it is the 401st.
        String open = Check.times("start;", 198) + "turn white;";
        Check.error(open + "start", 1, open.length() + 5);
        Check.error(open + "start;", 1, open.length() + 5);
        Check.error(open + "start?", 1, open.length() + 5);
        // An error ahead of it goes first.
        Check.error(Check.times("start;", 199) + "start?start;", 1, 1199);
    }

    /** "Only if there is no error 1, keywords and names are looked at" */
    private static void errorOneFirst() {
        Check.error("put white king l1; put white king a1", 1, 36);
        Check.error("put white king l1; put white king a1;", 2, 15);
        Check.error("go a1 a2;?", 1, 9);
        Check.error("go a1 a2; ", 4, 0);
        Check.error("put white king a1; put white king a1; start; start", 1, 50);
        Check.error("go a1 a2;" + Check.times("start;", 199), 1, 9 + 6 * 198);
        Check.error("go a1 a2;" + Check.times("start;", 198), 4, 0);
    }

    /** "from left to right ... the first error is told, at its token" */
    private static void leftToRight() {
        Check.error("put white king l1; go a1 a2;", 2, 15);
        Check.error("go a1 a2; put white king l1;", 4, 0);
        Check.error(KINGS + "go a1 a2 as queen; put white king l1;", 5, KINGS.length() + 12);
        Check.error(KINGS + "put white rook l1; put black rook l2;", 2, KINGS.length() + 15);
        Check.error(KINGS + "put black rook a1; put black rook l2;", 3, KINGS.length() + 15);
    }

    private static String twenty(String side) {
        StringBuilder b = new StringBuilder("put " + side + " king a1;");
        for (int i = 1; i < 20; i++) {
            b.append("put ").append(side).append(" pawn ").append((char) ('a' + i % 11)).append(1 + i / 11).append(";");
        }
        return b.toString();
    }

    /** Error 4 "at the side behind put", error 3 "at king", error 2 and 3 at the name. */
    private static void atPut() {
        String[] sides = {"white", "black"};
        for (String side : sides) {
            String full = twenty(side);
            int n = full.length();
            Check.error(full + "put " + side + " pawn f6;", 4, n + 4);
            Check.error(full + "put " + side + " king f6;", 4, n + 4);
            Check.error(full + "put " + side + " king l6;", 4, n + 4);
            Check.error(full + "put " + side + " pawn a1;", 4, n + 4);
            String one = "put " + side + " king a1;";
            Check.error(one + "put " + side + " king a2;", 3, one.length() + 10);
            Check.error(one + "put " + side + " king a1;", 3, one.length() + 10);
            Check.error(one + "put " + side + " king l1;", 3, one.length() + 10);
            Check.error(one + "put " + side + " queen a1;", 3, one.length() + 16);
            Check.error(one + "put " + side + " queen l1;", 2, one.length() + 16);
        }
        Check.error("put white king a1;put black king a1;", 3, 33);
    }

    /** Error 4 "at go ...; at its first name ...; at its second one ..." */
    private static void atGo() {
        int n = KINGS.length();
        Check.error("go a1 a2;", 4, 0);
        Check.error("go l1 l2;", 4, 0);
        Check.error(KINGS + "go a2 a1;", 4, n + 3);
        Check.error(KINGS + "go k6 k5;", 4, n + 3);
        Check.error(KINGS + "go a2 l1;", 4, n + 3);
        Check.error(KINGS + "go l1 l2;", 2, n + 3);
        Check.error(KINGS + "go a1 a3;", 4, n + 6);
        Check.error(KINGS + "go a1 k6;", 4, n + 6);
        Check.error(KINGS + "go a1 l1;", 2, n + 6);
        // A piece that is there, but has no legal move.
        String blocked = KINGS + "put white pawn f6; put black pawn f7; ";
        Check.error(blocked + "go f6 f7;", 4, blocked.length() + 3);
        Check.error("start; go f3 f4;", 4, 13);
        // Pieces that are bound to their king, or that have to help it.
        String bound = "put white king f1; put white knight f3; put black rook f8; put black king k5; ";
        Check.error(bound + "go f3 g5;", 4, bound.length() + 3);
        String helped = "put white king f1; put white knight a3; put black rook f8; put black king k5; ";
        Check.error(helped + "go a3 b5;", 4, helped.length() + 3);
        // Mate, stalemate, and it cannot be played: none at all.
        String mate = "put white king c3; put white queen b2; put black king a1; turn black; ";
        Check.error(mate + "go a1 a2;", 4, mate.length());
        String stale = "put white king c3; put black king a1; turn black; ";
        Check.error(stale + "go a1 a2;", 4, stale.length());
        String near = "put white king a1; put black king a2; ";
        Check.error(near + "go a1 b1;", 4, near.length());
    }

    /** "Error 5: at the piece behind as, if it is a king or a pawn, or no pawn comes to its last cell by this move." */
    private static void atAs() {
        int n = KINGS.length();
        Check.error(KINGS + "go a1 a2 as queen;", 5, n + 12);
        Check.error(KINGS + "go a1 a2 as pawn;", 5, n + 12);
        String pawn = KINGS + "put white pawn e9; ";
        int m = pawn.length();
        Check.error(pawn + "go e9 e10 as king;", 5, m + 13);
        Check.error(pawn + "go e9 e10 as\npawn;", 5, m + 13);
        Check.error(pawn + "go a1 a2 as knight;", 5, m + 12);
        // The move itself goes first.
        Check.error(pawn + "go e9 e11 as king;", 2, m + 6);
        Check.error(pawn + "go e9 d9 as king;", 4, m + 6);
        Check.error(pawn + "go e8 e9 as king;", 4, m + 3);
        Check.told(pawn + "go e9 e10 as knight;");
    }

    /** "of errors at one token the one with the smallest number" */
    private static void smallestNumber() {
        // A name of no cell is one from which, and to which, there is no move.
        Check.error(KINGS + "go a0 a1;", 2, KINGS.length() + 3);
        Check.error(KINGS + "go a1 a0;", 2, KINGS.length() + 6);
        Check.error(KINGS + "go queens a1;", 2, KINGS.length() + 3);
    }

    /** "by the position as it is by then" */
    private static void asItIsByThen() {
        String there = KINGS + "go a1 a2; ";
        int n = there.length();
        Check.error(there + "go a1 a2;", 4, n + 3);
        Check.error(there + "go a2 a1;", 4, n + 3);
        Check.error(there + "put white rook a2;", 3, n + 15);
        Check.told(there + "put white rook a1;");
        Check.error(there + "start; go a2 a1;", 4, n + 10);
        Check.told(there + "start; go b1 b2;");
        Check.error(there + "start; put white king a2;", 3, n + 17);
    }
}
