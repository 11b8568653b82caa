/** The example of README.md answers as it says there. */
public final class ReadmeTest {
    public static void main(String[] args) {
        HexCabinet x = new HexCabinet();
        Check.due("feed", x.feed(0x73746172, 0x743B2020, 0x20202020, 0x20202020, 0x20202020), 20);
        Check.due("trim(6)", x.trim(6), 6);
        Check.due("teach()", x.teach(), 0);
        Check.due("count(3)", x.count(3), 51);
        Check.due("name of the cell to which the first move goes", x.name(x.nth(0) % 91), 102);
        Check.due("move b1 b3", x.move(x.at(1, 1), x.at(1, 3), 2), 0);
        Check.due("count(9)", x.count(9), 7);
        Check.due("back()", x.back(), 0);
        Check.due("name(at(5, 11))", x.name(x.at(5, 11)), 511);

        String[] lines = {"start;", "put white king a1;", "turn black;", "start; go b1 b3;",
            "put white king a1; put black king k6; put white pawn e9; go e9 e10 as knight;"};
        for (String line : lines) {
            Check.told(line);
        }
        Check.end();
    }
}
