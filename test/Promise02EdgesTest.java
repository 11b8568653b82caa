/** Promise 2, at its boundaries: feed. */
public final class Promise02EdgesTest {
    public static void main(String[] args) {
        full();
        numberOfBytes();
        highestFirst();
        everyByte();
        emptyBehindTeach();
        Check.end();
    }

    /** A valid game that is 2000 bytes long, of which the first n are kept. */
    private static HexCabinet filled(int n) {
        HexCabinet x = Check.told("start; go f5 f6; go b7 b5;");
        Check.feed(x, "put white king a1; turn black;" + Check.times(" ", 1970));
        x.trim(n);
        return x;
    }

    /** "Throws IllegalStateException if there would be more than 2000" */
    private static void full() {
        Check.due("feed at 1979", filled(1979).feed(0, 0, 0, 0, 0), 1999);
        Check.due("feed at 1980", filled(1980).feed(0, 0, 0, 0, 0), 2000);
        int[] sizes = {1981, 1982, 1990, 1999, 2000};
        for (int size : sizes) {
            // Each of the bytes would be an error, if it were on the tape.
            Check.refused("feed at " + size, IllegalStateException.class, () -> filled(size),
                    x -> x.feed(-1, -1, -1, -1, -1));
        }
        HexCabinet x = filled(2000);
        Check.noState("feed at 2000", () -> x.feed(1, 2, 3, 4, 5));
        Check.due("count(10) behind it", x.count(10), 2000);
        Check.noState("feed again", () -> x.feed(1, 2, 3, 4, 5));
        Check.due("teach() of what stayed", x.teach(), 0);
        Check.due("count(1)", x.count(1), 1);
    }

    /** "Returns the number of bytes of the tape." */
    private static void numberOfBytes() {
        HexCabinet x = new HexCabinet();
        for (int n = 20; n <= 2000; n += 20) {
            Check.due("feed", x.feed(0, 0, 0, 0, 0), n);
        }
        x.trim(1);
        Check.due("feed behind one byte", x.feed(0, 0, 0, 0, 0), 21);
        x.trim(0);
        Check.due("feed behind none", x.feed(0, 0, 0, 0, 0), 20);
    }

    /** "Appends twenty bytes to the tape: the four bytes of each number, the highest one first." */
    private static void highestFirst() {
        int[] bad = {'!', 0x80, 0xFF, 0};
        for (int b : bad) {
            for (int place = 0; place < 20; place++) {
                int[] numbers = {0x20202020, 0x20202020, 0x20202020, 0x20202020, 0x20202020};
                int shift = 24 - 8 * (place % 4);
                numbers[place / 4] = numbers[place / 4] & ~(255 << shift) | b << shift;
                HexCabinet x = new HexCabinet();
                Check.feed(x, " \n ");
                x.feed(numbers[0], numbers[1], numbers[2], numbers[3], numbers[4]);
                Check.due("teach() with the byte " + b + " at " + place, x.teach(), 1);
                Check.due("errorAt() with the byte " + b + " at " + place, x.errorAt(), 3 + place);
            }
        }
        // All numbers count: a word goes through the five of them.
        HexCabinet x = new HexCabinet();
        x.feed(0x20202074, 0x75726E20, 0x626C6163, 0x6B200A20, 0x2020203B);
        Check.due("teach()", x.teach(), 0);
        Check.due("count(1)", x.count(1), 1);
    }

    /** "Blanks (32) and line ends (10)": of all 256 bytes no other one, also none with its highest bit set. */
    private static void everyByte() {
        for (int b = 0; b < 256; b++) {
            HexCabinet x = new HexCabinet();
            x.feed(b << 24, 0, 0, 0, 0);
            x.trim(1);
            boolean blank = b == 32 || b == 10;
            Check.due("teach() of the byte " + b, x.teach(), blank ? 0 : 1);
            Check.due("errorAt() of the byte " + b, x.errorAt(), blank ? -1 : 0);
        }
    }

    /** "it is empty behind it": a feed behind teach stands at the beginning, with an error and without. */
    private static void emptyBehindTeach() {
        HexCabinet x = Check.told("start;");
        Check.due("feed behind teach()", x.feed(0, 0, 0, 0, 0), 20);
        Check.due("teach() of zeros", x.teach(), 1);
        Check.due("errorAt()", x.errorAt(), 0);
        Check.due("feed behind an error", x.feed(0, 0, 0, 0, 0), 20);
    }
}
