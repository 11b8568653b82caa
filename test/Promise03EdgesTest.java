/** Promise 3, at its boundaries: trim. */
public final class Promise03EdgesTest {
    public static void main(String[] args) {
        bothEnds();
        firstBytes();
        goneBytes();
        Check.end();
    }

    private static HexCabinet withTape(int n) {
        HexCabinet x = Check.told("start; go f5 f6; go b7 b5;");
        Check.feed(x, "turn black;" + Check.times(" ", 1989));
        x.trim(n);
        return x;
    }

    /** "Throws IllegalArgumentException if n is not 0 to the number of bytes of the tape"; "Returns n." */
    private static void bothEnds() {
        int[] sizes = {0, 1, 19, 20, 21, 1999, 2000};
        for (int size : sizes) {
            Check.due("trim(0) of " + size, withTape(size).trim(0), 0);
            HexCabinet x = withTape(size);
            Check.due("trim of all " + size, x.trim(size), size);
            Check.due("count(10)", x.count(10), size);
            int[] wrong = {-1, size + 1, -size - 1, size + 65536, Integer.MIN_VALUE, Integer.MAX_VALUE,
                Integer.MIN_VALUE + size};
            for (int n : wrong) {
                Check.refused("trim(" + n + ") of " + size, IllegalArgumentException.class, () -> withTape(size),
                        y -> y.trim(n));
            }
        }
        // The number of bytes is the one that there is, not the one that there was.
        HexCabinet x = withTape(20);
        x.trim(19);
        Check.noArgument("trim(20)", () -> x.trim(20));
        x.teach();
        Check.due("count(10) behind teach()", x.count(10), 0);
        Check.noArgument("trim(1) behind teach()", () -> x.trim(1));
        Check.due("trim(0) behind teach()", x.trim(0), 0);
    }

    /** "Shortens the tape to its first bytes." */
    private static void firstBytes() {
        String text = "turn black;?";
        for (int n = 0; n <= text.length(); n++) {
            HexCabinet x = new HexCabinet();
            Check.feed(x, text);
            Check.due("trim(" + n + ")", x.trim(n), n);
            Check.due("count(10)", x.count(10), n);
            boolean game = n == 0 || n == 11;
            Check.due("teach() of the first " + n, x.teach(), game ? 0 : 1);
            // Half a word where the whole one would stand is the error itself.
            int at = game ? -1 : n < 4 ? 0 : n < 6 ? n : n < 10 ? 5 : n == 12 ? 11 : n;
            Check.due("errorAt() of the first " + n, x.errorAt(), at);
        }
    }

    /** What is cut off is gone: behind it stands what is fed then. */
    private static void goneBytes() {
        HexCabinet x = new HexCabinet();
        Check.feed(x, "turn black; turn white;");
        x.trim(11);
        Check.due("feed behind trim", x.feed(0x20202020, 0x20202020, 0x20202020, 0x20202020, 0x20202020), 31);
        Check.due("teach()", x.teach(), 0);
        Check.due("count(1)", x.count(1), 1);
    }
}
