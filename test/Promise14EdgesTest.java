import java.util.ArrayList;
import java.util.List;

/** Promise 14, at its boundaries: back. */
public final class Promise14EdgesTest {
    private static final String KINGS = "put white king a1; put black king k6; ";

    public static void main(String[] args) {
        none();
        howMany();
        behindLines();
        behindTeach();
        allAsItWas();
        everyKindOfMove();
        quietMoves();
        asManyAsFiveHundredAndTwelveCallsMake();
        Check.end();
    }

    private static void refused(String text) {
        Check.refused("back() of " + text, IllegalStateException.class, () -> {
            HexCabinet x = Check.told(text);
            Check.teach(x, "start; stop;");
            Check.feed(x, "turn black;");
            return x;
        }, HexCabinet::back);
    }

    /** "Throws IllegalStateException if there is none" */
    private static void none() {
        Check.refused("back() of a new one", IllegalStateException.class, HexCabinet::new, HexCabinet::back);
        refused("");
        refused("start;");
        refused(KINGS);
        refused(KINGS + "turn black;");
        Check.refused("back() once too often", IllegalStateException.class, () -> {
            HexCabinet x = Check.busy();
            for (int i = 3; i >= 0; i--) {
                Check.due("back()", x.back(), i);
            }
            return x;
        }, HexCabinet::back);
    }

    /** "Returns how many can be taken back then." */
    private static void howMany() {
        HexCabinet x = Check.told(KINGS + "go a1 a2; go k6 k5;");
        Check.due("back() of two", x.back(), 1);
        Check.due("count(0)", x.count(0), 1);
        Check.due("back() of one", x.back(), 0);
        Check.due("count(0)", x.count(0), 0);
        Check.noState("back() of none", x::back);
        Check.go(x, "a1", "b1");
        Check.due("back() of the next one", x.back(), 0);
    }

    /** "Behind start, put and turn no move can be taken back" */
    private static void behindLines() {
        refused(KINGS + "go a1 a2; go k6 k5; start;");
        refused(KINGS + "go a1 a2; go k6 k5; turn white;");
        refused(KINGS + "go a1 a2; go k6 k5; turn black;");
        refused(KINGS + "go a1 a2; go k6 k5; put white rook f6;");
        HexCabinet x = Check.told(KINGS + "go a1 a2; turn white; go a2 a1;");
        Check.due("back() of the one behind turn", x.back(), 0);
        Check.noState("back() of the one ahead of turn", x::back);
        Check.due("a2", x.cell(Check.cell("a2"), 0), 1);
    }

    /** "in the place of all that was there. If it has an error, all stays": the moves made as well. */
    private static void behindTeach() {
        HexCabinet x = Check.told("start; go f5 f6;");
        Check.due("teach()", Check.teach(x, "start; go f5 f6; go f5 f6;"), 4);
        Check.due("back() behind an error", x.back(), 0);
        Check.alike("back() behind an error", twinError(x), twinError(Check.told("start;")));
        HexCabinet y = Check.told("start; go f5 f6;");
        Check.due("teach() of an empty tape", y.teach(), 0);
        Check.noState("back() behind teach()", y::back);
        Check.due("teach()", Check.teach(y, "start; go f5 f6; go f7 f7;"), 4);
        Check.noState("back() behind an error of teach()", y::back);
    }

    private static HexCabinet twinError(HexCabinet x) {
        Check.teach(x, "?");
        return x;
    }

    private static void thereAndBack(String text, String from, String to, int as) {
        HexCabinet x = Check.told(text);
        HexCabinet twin = Check.told(text);
        int moves = x.count(0);
        x.move(Check.cell(from), Check.cell(to), as);
        Check.due("count(0) behind " + from + " " + to, x.count(0), moves + 1);
        Check.due("back() of " + from + " " + to, x.back(), moves);
        Check.alike("back() of " + from + " " + to + " of " + text, x, twin);
    }

    /** "Takes the latest move back: all is as it was ahead of it." Every kind of move. */
    private static void everyKindOfMove() {
        thereAndBack(KINGS, "a1", "a2", 2);
        thereAndBack(KINGS + "turn black;", "k6", "k5", 2);
        thereAndBack(KINGS + "go a1 a2; go k6 k5;", "a2", "a1", 2);
        thereAndBack(KINGS + "put white rook f1; put black queen f4;", "f1", "f4", 2);
        thereAndBack(KINGS + "put white rook f1; put black pawn f4;", "f1", "f4", 5);
        thereAndBack("start;", "f5", "f6", 2);
        thereAndBack("start;", "b1", "b3", 2);
        // Ahead of it a pawn could be taken in passing, and is so again.
        thereAndBack("start; go b1 b3;", "b7", "b5", 2);
        thereAndBack("start; go b1 b3;", "g10", "g9", 2);
        String white = "put white king a1; put black king k5; put white pawn f5; put black pawn g6; go f5 f7;";
        thereAndBack(white, "g6", "f6", 2);
        thereAndBack(white, "g6", "g5", 2);
        String black = "put white king a1; put black king k5; put white pawn g5; put black pawn f7; turn black; go f7 f5;";
        thereAndBack(black, "g5", "f6", 2);
        thereAndBack(black, "a1", "a2", 2);
        for (int as = 2; as <= 5; as++) {
            thereAndBack(KINGS + "put white pawn e9; put black rook d9;", "e9", "e10", as);
            thereAndBack(KINGS + "put white pawn e9; put black rook d9;", "e9", "d9", as);
            thereAndBack(KINGS + "put black pawn e2; put white rook d1; turn black;", "e2", "d1", as);
        }
        // Mate and stalemate.
        thereAndBack("put white king c3; put white queen b7; put black king a1;", "b7", "b2", 2);
        thereAndBack("put white king d4; put black king a1;", "d4", "c3", 2);
    }

    /** The same with all that there is: the tape and the place of the error are no part of a move. */
    private static void allAsItWas() {
        HexCabinet x = Check.busy();
        Check.go(x, "g2", "g1");
        Check.go(x, "g9", "g10");
        Check.due("back()", x.back(), 5);
        Check.due("back()", x.back(), 4);
        Check.due("count(9)", x.count(9), Check.cell("b6"));
        Check.alike("two moves and back()", x, Check.busy());
    }

    /** "with 60 it is over": one back it is not. */
    private static void quietMoves() {
        String text = KINGS + "put white pawn f5; put black pawn b5;"
                + Check.quietMoves(59);
        thereAndBack(text, "k5", "k6", 2);
        thereAndBack(text, "b5", "b4", 2);
        HexCabinet x = Check.told(text);
        Check.go(x, "b5", "b4");
        Check.due("count(6)", x.count(6), 0);
        x.back();
        Check.due("count(6)", x.count(6), 59);
        Check.go(x, "k5", "k6");
        Check.due("count(2)", x.count(2), 4);
        Check.due("back()", x.back(), 59);
        Check.due("count(2)", x.count(2), 0);
        Check.due("count(6)", x.count(6), 59);
    }

    /** Kings that go to and fro, and a pawn's step whenever many moves were quiet. */
    private static List<String> plan(int moves) {
        String[] steps = {"b1 b2", "b2 b3", "b3 b4", "c2 c3", "c3 c4", "d3 d4", "d4 d5", "i2 i3", "i3 i4", "j1 j2",
            "j2 j3", "h3 h4"};
        String[] white = {"g1 g2", "g2 g1"};
        String[] black = {"g10 g9", "g9 g10"};
        List<String> plan = new ArrayList<>();
        int quiet = 0;
        int pawns = 0;
        int kings = 0;
        for (int i = 0; i < moves; i++) {
            if (i % 2 == 1) {
                plan.add(black[i / 2 % 2]);
                quiet++;
            } else if (quiet >= 56) {
                plan.add(steps[pawns]);
                pawns++;
                quiet = 0;
            } else {
                plan.add(white[kings % 2]);
                kings++;
                quiet++;
            }
        }
        return plan;
    }

    private static final int TOLD = 99;

    /** "start" and 99 moves, which are 398 tokens; makes some 50 calls. */
    private static int tell(HexCabinet x, List<String> plan) {
        StringBuilder b = new StringBuilder("start;");
        for (int i = 0; i < TOLD; i++) {
            b.append("go ").append(plan.get(i)).append(';');
        }
        String text = b.append(Check.times(" ", 20)).toString();
        int calls = 0;
        for (int i = 0; i + 20 <= text.length(); i += 20) {
            x.feed(Check.four(text, i), Check.four(text, i + 4), Check.four(text, i + 8), Check.four(text, i + 12),
                    Check.four(text, i + 16));
            calls++;
        }
        Check.due("teach()", x.teach(), 0);
        return calls + 1;
    }

    /** "An object is used for at most 512 calls": as many moves as they can make can be made, and taken back. */
    private static void asManyAsFiveHundredAndTwelveCallsMake() {
        List<String> plan = plan(620);
        HexCabinet x = new HexCabinet();
        int[] cells = new int[2 * plan.size()];
        for (int i = 0; i < plan.size(); i++) {
            String[] move = plan.get(i).split(" ");
            cells[2 * i] = Check.cell(move[0]);
            cells[2 * i + 1] = Check.cell(move[1]);
        }
        int calls = tell(x, plan);
        int made = TOLD;
        while (calls < 511) {
            Check.due("move " + made, x.move(cells[2 * made], cells[2 * made + 1], 2), 0);
            made++;
            calls++;
        }
        Check.due("count(0)", x.count(0), made);
        Check.dueTrue("many", made > 540);

        HexCabinet y = new HexCabinet();
        calls = tell(y, plan);
        made = TOLD;
        while (calls + made + 2 < 511) {
            y.move(cells[2 * made], cells[2 * made + 1], 2);
            made++;
            calls++;
        }
        while (made > 0) {
            made--;
            Check.due("back()", y.back(), made);
        }
        Check.due("digest() at the start", y.digest(), Check.told("start;").digest());
    }
}
