/** Promise 10: far. */
public final class Promise10Test {
    public static void main(String[] args) {
        // What stands on the board does not matter.
        HexCabinet x = Check.told("start;");
        far(x, 1, "f1", "f11", 7);
        far(x, 1, "f6", "g7", 1);
        far(x, 1, "f6", "f8", 2);
        far(x, 1, "f6", "f9", 2);
        far(x, 2, "f6", "f11", 1);
        far(x, 2, "f6", "h8", 1);
        far(x, 2, "f6", "h7", 2);
        far(x, 3, "f1", "f11", 1);
        far(x, 3, "f6", "g7", 2);
        far(x, 3, "f6", "h8", 2);
        far(x, 4, "f6", "h8", 1);
        far(x, 4, "f6", "f7", -1);
        far(x, 4, "f6", "f9", 2);
        far(x, 5, "f6", "g8", 1);
        far(x, 5, "f6", "i5", 1);
        far(x, 5, "a1", "k6", 4);
        far(x, 5, "a1", "a2", 2);
        String[] cells = {"f6", "a1", "k6", "f11"};
        for (int piece = 1; piece <= 5; piece++) {
            for (String name : cells) {
                far(x, piece, name, name, 0);
            }
        }
        // A bishop comes to each cell of its colour, and to no other one.
        for (int from = 0; from < 91; from++) {
            // A new one each time: an object is good for 512 calls.
            HexCabinet y = new HexCabinet();
            for (int to = 0; to < 91; to++) {
                boolean same = y.cell(from, 2) == y.cell(to, 2);
                Check.due("far(4) of the same colour", y.far(4, from, to) >= 0 ? 1 : 0, same ? 1 : 0);
            }
        }

        int[] pieces = {0, 6, -1, Integer.MIN_VALUE, Integer.MAX_VALUE};
        for (int piece : pieces) {
            Check.noArgument("far(" + piece + ", 0, 0)", () -> x.far(piece, 0, 0));
            Check.noArgument("far(" + piece + ", -1, 91)", () -> x.far(piece, -1, 91));
        }
        int[] ends = {-1, 91, Integer.MIN_VALUE, Integer.MAX_VALUE};
        for (int end : ends) {
            Check.noCell("far(1, " + end + ", 0)", () -> x.far(1, end, 0));
            Check.noCell("far(5, 0, " + end + ")", () -> x.far(5, 0, end));
        }
        Check.end();
    }

    private static void far(HexCabinet x, int piece, String from, String to, int due) {
        String call = "far(" + piece + ", " + from + ", " + to + ")";
        Check.due(call, x.far(piece, Check.cell(from), Check.cell(to)), due);
        Check.due(call + " turned", x.far(piece, Check.cell(to), Check.cell(from)), due);
    }
}
