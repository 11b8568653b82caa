/** Promise 2: feed appends twenty bytes, the highest one of each number first. */
public final class Promise02Test {
    public static void main(String[] args) {
        HexCabinet x = new HexCabinet();
        // "turn", " bla", "ck ;", blanks.
        Check.due("feed", x.feed(0x7475726E, 0x20626C61, 0x636B203B, 0x20202020, 0x0A0A0A0A), 20);
        Check.due("count(10)", x.count(10), 20);
        Check.due("teach()", x.teach(), 0);
        Check.due("count(1)", x.count(1), 1);

        // Bytes from 128 on are kept as they are, and are no blanks.
        x.feed(0x20202020, 0x200A0A20, 0x20202020, 0x202020A0, 0x20202020);
        Check.due("teach() of the byte 160", x.teach(), 1);
        Check.due("errorAt()", x.errorAt(), 15);
        x.feed(-1, -1, -1, -1, -1);
        Check.due("teach() of the byte 255", x.teach(), 1);
        Check.due("errorAt()", x.errorAt(), 0);

        for (int i = 1; i <= 100; i++) {
            Check.due("feed " + i, x.feed(i, i, i, i, i), 20 * i);
        }
        Check.noState("feed to 2020", () -> x.feed(0, 0, 0, 0, 0));
        Check.due("count(10)", x.count(10), 2000);
        x.trim(1981);
        Check.noState("feed to 2001", () -> x.feed(0, 0, 0, 0, 0));
        Check.due("count(10)", x.count(10), 1981);
        x.trim(1980);
        Check.due("feed to 2000", x.feed(0, 0, 0, 0, 0), 2000);

        // What is fed stands behind what there is, also behind a trim.
        HexCabinet y = new HexCabinet();
        Check.feed(y, "turn wh");
        Check.feed(y, "ite; turn black");
        y.trim(17);
        Check.feed(y, "white;");
        Check.due("teach()", y.teach(), 0);
        Check.due("count(1)", y.count(1), 0);
        Check.end();
    }
}
