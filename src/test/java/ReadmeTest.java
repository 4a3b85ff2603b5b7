import java.io.IOException;
import java.nio.file.Files;
import java.nio.file.Path;

/** The example of README.md: each line stands there with the answer that the class gives. */
public final class ReadmeTest {
    private final String readme;

    private ReadmeTest(String readme) {
        this.readme = readme;
    }

    public static void main(String[] args) throws IOException {
        new ReadmeTest(Files.readString(Path.of("README.md")).replaceAll(" +", " ")).example();
        Due.end();
    }

    private int line(String code, int got) {
        int at = readme.indexOf(code + "; // ");
        Due.yes("README.md has '" + code + "'", at >= 0);
        if (at >= 0) {
            String answer = readme.substring(at + code.length() + 5).split("[:\n]", 2)[0];
            Due.same("README.md's answer of " + code, String.valueOf(got), answer);
        }
        return got;
    }

    private void example() {
        TowerPipers band = new TowerPipers();
        int ann = line("int ann = band.piper(3, 0b00011)", band.piper(3, 0b00011));
        int ben = line("int ben = band.piper(2, 0b00010)", band.piper(2, 0b00010));
        int air = line("int air = band.tune(0b000001, 0b111111111111)", band.tune(0b000001, 0b111111111111));
        line("band.feed(0x77323B66, 0x32300000, 0, 0, 0)", band.feed(0x77323B66, 0x32300000, 0, 0, 0));
        line("band.word(6)", band.word(6));
        Due.isWord("README.md's word", band, 2, 20, 100, 50);
        int c = line("int c = band.call(1, 10, 4, 0, 0, 0, 1, 100)", band.call(1, 10, 4, 0, 0, 0, 1, 100));
        line("band.played()", band.played());
        Due.is("ben has the second part", ben, line("band.who(c, 1)", band.who(c, 1)));
        Due.is("the tune", air, line("band.heard(c)", band.heard(c)));
        line("band.share(c, ann)", band.share(c, ann));
        line("band.share(c, TowerPipers.NONE)", band.share(c, TowerPipers.NONE));
        line("band.day()", band.day());
        line("band.wages(ann)", band.wages(ann));
        line("band.wages(TowerPipers.NONE)", band.wages(TowerPipers.NONE));
        line("band.call(1, 95, 2, 0, 0, 0, 1, 100)", band.call(1, 95, 2, 0, 0, 0, 1, 100));
    }
}
