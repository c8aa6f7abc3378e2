import java.io.IOException;
import java.nio.file.Files;
import java.nio.file.Path;

/** What README.md tells of the use of the class: each of its lines stands there as it is asked here. */
public final class ReadmeTest extends Asking {
    private static String readme;

    private static void told(String call, int got, int want, String answer) {
        due(call, got, want);
        boolean isThere = false;
        for (String line : readme.split("\n")) {
            isThere |= line.startsWith("tales." + call + ";") && line.contains("// " + answer);
        }
        due("README.md has " + call + " with " + answer, isThere, true);
    }

    public static void main(String[] args) throws IOException {
        readme = Files.readString(Path.of("README.md"));
        StarTales tales = new StarTales();
        told("star(0, 10, 5, 1)", tales.star(0, 10, 5, 1) ? 1 : 0, 1, "true");
        tales.star(1, 12, 5, 2);
        tales.star(2, 11, 7, 3);
        told("feed(0x6A28643C, 0x34290000, 0, 0, 0)", tales.feed(0x6A28643C, 0x34290000, 0, 0, 0), 20, "20:");
        told("law(6)", tales.law(6), 1, "1:");
        told("line(11, 5, 0, 1)", tales.line(11, 5, 0, 1), 1, "1:");
        told("feed(0x41423B42, 0x43000000, 0, 0, 0)", tales.feed(0x41423B42, 0x43000000, 0, 0, 0), 20, "\"AB;BC\"");
        told("tale(5)", tales.tale(5), 2, "2:");
        told("matched(11, 5, StarTales.NONE)", tales.matched(11, 5, StarTales.NONE), 6, "6:");
        told("matched(11, 5, 2)", tales.matched(11, 5, 2), 2, "2:");
        told("matched(11, 5, 3)", tales.matched(11, 5, 3), -2, "-2:");
        told("ship(0, 8, 5)", tales.ship(0, 8, 5) ? 1 : 0, 1, "true");
        told("keep()", tales.keep(), 3, "3:");
        told("steered(0, 0, 3, false)", tales.steered(0, 0, 3, false), 131, "131:");
        told("undo()", tales.undo() ? 1 : 0, 1, "true");
        told("star(24, 0, 0, 1)", tales.star(24, 0, 0, 1) ? 1 : 0, 0, "false");
        told("seen(24, 0)", tales.seen(24, 0), -1, "-1 (NONE)");
        tellAndEnd();
    }
}
