/** Promise 20: digest. */
public final class Promise20Test {
    public static void main(String[] args) {
        // At the start, as the tests that are shared have it.
        Check.due("digest() at the start", Check.told("start;").digest(), 6995384474970080735L);
        digest(new HexCabinet());
        digest(Check.told("start;"));
        digest(Check.told("start; go b1 b3; go b7 b5;"));
        digest(Check.told("put white king c3; put white queen b2; put black king a1; turn black;"));
        digest(Check.told("put white rook f1; put black bishop f6;"));
        digest(fed());
        HexCabinet x = fed();
        long before = x.digest();
        Check.due("digest() again", x.digest(), before);
        Check.go(x, "b1", "b2");
        Check.dueTrue("another one behind a move", x.digest() != before);
        digest(x);
        Check.end();
    }

    private static HexCabinet fed() {
        HexCabinet x = Check.told("start;");
        Check.feed(x, "start");
        return x;
    }

    /** Makes some 430 of the 512 calls that an object is good for. */
    private static void digest(HexCabinet x) {
        long d = 887;
        for (int what = 0; what <= 10; what++) {
            d = d * 31 + x.count(what);
        }
        int[] told = {0, 1, 4, 5};
        for (int cell = 0; cell < 91; cell++) {
            for (int what : told) {
                d = d * 31 + x.cell(cell, what);
            }
        }
        int moves = x.count(3);
        for (int i = 0; i < moves; i++) {
            d = d * 31 + x.nth(i);
        }
        Check.due("digest()", x.digest(), d);
    }
}
