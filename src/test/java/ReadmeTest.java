import java.io.IOException;
import java.nio.file.Files;
import java.nio.file.Path;

/** The example of README.md stands here line for line, and answers what README.md says of it. */
public final class ReadmeTest {
    private static final Check CHECK = new Check();

    public static void main(String[] args) throws IOException {
        example();
        exampleIsTheOneTold();
        CHECK.end();
    }

    private static void example() {
        DoublePacks x = new DoublePacks();
        x.decimal(123, 2);                            // 1.23: there is 1 value
        x.add(Double.doubleToRawLongBits(-0.5));      // any 64 bits: there are 2
        x.decimal(7, 0);
        int bytes = x.pack(8);                        // OUT: blocks of up to 8 values, each by its shortest way
        int way = x.way(0);                           // 6: as whole numbers over a power of ten
        int bits = x.bits(0, way);                    // 46, where x.bits(0, 0), each value whole, is 195

        DoublePacks y = new DoublePacks();
        for (int i = 0; i < bytes; i++) {
            y.feed(x.out(i), 1);                      // bytes come behind THE TAPE, up to 8 a call
        }
        int fault = y.open();                         // 0: THE ROW of y is what its TAPE tells
        double second = Double.longBitsToDouble(y.value(1));

        y.change(3, 1);                               // a bit of THE TAPE turned
        int laterFault = y.open();                    // 7: another CHECK, and THE ROW of y stays
        int place = y.place();                        // 64: the bit of THE TAPE that can't be

        CHECK.same("bytes", bytes, 10);
        CHECK.same("way", way, 6);
        CHECK.same("bits", bits, 46);
        CHECK.same("x.bits(0, 0)", x.bits(0, 0), 195);
        CHECK.same("fault", fault, 0);
        CHECK.same("second", Rows.bits(second), Rows.bits(-0.5));
        CHECK.same("laterFault", laterFault, 7);
        CHECK.same("place", place, 64);
        CHECK.same("y.count()", y.count(), 3);
    }

    private static void exampleIsTheOneTold() throws IOException {
        String readme = Files.readString(Path.of("README.md"));
        String own = Files.readString(Path.of("src/test/java/ReadmeTest.java"));
        int from = readme.indexOf("```java\n");
        int to = readme.indexOf("```", from + 1);
        CHECK.same("README.md has an example", from >= 0 && to > from ? 1 : 0, 1);
        if (to > from) {
            String told = readme.substring(from, to).lines().skip(1).reduce("", ReadmeTest::indented);
            CHECK.same("the example of README.md is run here", own.contains(told) ? 1 : 0, 1);
        }
    }

    private static String indented(String above, String line) {
        return above + (line.isEmpty() ? "" : "        " + line) + "\n";
    }
}
