import java.nio.charset.StandardCharsets;

/** Compares answers with those that are due, and ends a test. */
final class Due {
    private static int asked = 0;
    private static int wrong = 0;

    private Due() {
    }

    static void is(String what, long due, long got) {
        asked++;
        if (due != got) {
            wrong++;
            System.out.println(what + " answered " + got + ", due is " + due);
        }
    }

    static void yes(String what, boolean got) {
        is(what, 1, got ? 1 : 0);
    }

    static void no(String what, boolean got) {
        is(what, 0, got ? 1 : 0);
    }

    /** Ends the test: with exit code 1 if one answer was wrong or nothing was asked. */
    static void end() {
        System.out.println(asked + " answers asked, " + wrong + " not as due");
        if (wrong != 0 || asked == 0) {
            System.exit(1);
        }
    }

    /** Feeds the text, blanks behind it up to twenty or forty bytes, and makes it the word. */
    static int word(TowerPipers band, String text) {
        feed(band, text);
        return band.word(text.length());
    }

    static int feed(TowerPipers band, String text) {
        byte[] bytes = text.getBytes(StandardCharsets.ISO_8859_1);
        int[] ints = new int[bytes.length > 20 ? 10 : 5];
        for (int i = 0; i < ints.length * 4; i++) {
            int one = i < bytes.length ? bytes[i] & 255 : ' ';
            ints[i / 4] = ints[i / 4] << 8 | one;
        }
        int answer = 0;
        for (int i = 0; i < ints.length; i += 5) {
            answer = band.feed(ints[i], ints[i + 1], ints[i + 2], ints[i + 3], ints[i + 4]);
        }
        return answer;
    }
}
