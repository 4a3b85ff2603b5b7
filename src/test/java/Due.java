import java.nio.charset.StandardCharsets;

/** Compares answers with those that are due, and ends a test. */
final class Due {
    private static int asked = 0;
    private static int wrong = 0;

    private Due() {
    }

    static void is(String what, long due, long got) {
        asked++;
        if (due != got) {
            wrong++;
            System.out.println(what + " answered " + got + ", due is " + due);
        }
    }

    static void yes(String what, boolean got) {
        is(what, 1, got ? 1 : 0);
    }

    static void no(String what, boolean got) {
        is(what, 0, got ? 1 : 0);
    }

    static void same(String what, String due, String got) {
        asked++;
        if (!due.equals(got)) {
            wrong++;
            System.out.println(what + " is\n" + got + "due is\n" + due);
        }
    }

    /** The four numbers of the town's word. */
    static void isWord(String what, TowerPipers x, int w, int f, int p, int g) {
        is(what + " w", w, x.count(10));
        is(what + " f", f, x.count(11));
        is(what + " p", p, x.count(12));
        is(what + " g", g, x.count(13));
    }

    /** A sentence of the document with the test that it has of its own. */
    static void sentence(String words, Runnable test) {
        int wrongBefore = wrong;
        yes("the document says '" + words + "':", Document.says(words));
        int askedBefore = asked;
        test.run();
        yes("something was asked:", asked > askedBefore);
        if (wrong > wrongBefore) {
            System.out.println("NOT KEPT: " + words);
        }
    }

    /** Ends the test: with exit code 1 if one answer was wrong or nothing was asked. */
    static void end() {
        System.out.println(asked + " answers asked, " + wrong + " not as due");
        if (wrong != 0 || asked == 0) {
            System.exit(1);
        }
    }

    /** Feeds the text, blanks behind it up to twenty or forty bytes, and makes it the word. */
    static int word(TowerPipers band, String text) {
        feed(band, text);
        return band.word(text.length());
    }

    static int feed(TowerPipers band, String text) {
        byte[] bytes = text.getBytes(StandardCharsets.ISO_8859_1);
        int[] ints = new int[bytes.length > 20 ? 10 : 5];
        for (int i = 0; i < ints.length * 4; i++) {
            int one = i < bytes.length ? bytes[i] & 255 : ' ';
            ints[i / 4] = ints[i / 4] << 8 | one;
        }
        int answer = 0;
        for (int i = 0; i < ints.length; i += 5) {
            answer = band.feed(ints[i], ints[i + 1], ints[i + 2], ints[i + 3], ints[i + 4]);
        }
        return answer;
    }
}
