/** The boundaries of the tape and of the town's word: each sentence of the document by a test of its own. */
public final class WordBoundariesTest {
    private static final int NONE = TowerPipers.NONE;
    private static final String FORTY = "w1;w2;w3;w4;w5;w6;w7;w8;w9;f12;p1234;g45";

    private WordBoundariesTest() {
    }

    public static void main(String[] args) {
        Due.sentence("CLAUSES with a ; (59) between two", WordBoundariesTest::clausesAreParted);
        Due.sentence("no blanks", WordBoundariesTest::noBlanks);
        Due.sentence("each a letter and a number of one to four digits", WordBoundariesTest::oneToFourDigits);
        Due.sentence("w QUARTERS for a step of the way (0 to 20; 1 at first)", WordBoundariesTest::rangeOfW);
        Due.sentence("f hundredths of a fee that are the FUND's (0 to 100; 10)", WordBoundariesTest::rangeOfF);
        Due.sentence("p pence that each OLD one has of the FUND a year (0 to 9999; 100)",
            WordBoundariesTest::rangeOfP);
        Due.sentence("g pence of a fine (0 to 9999; 50)", WordBoundariesTest::rangeOfG);
        Due.sentence("What no CLAUSE tells is as at first", WordBoundariesTest::untoldIsAsAtFirst);
        Due.sentence("the later one of a letter counts", WordBoundariesTest::laterOneCounts);
        Due.sentence("FAULTS, the first from the left", WordBoundariesTest::firstFaultFromTheLeft);
        Due.sentence("1 no such letter there", WordBoundariesTest::noSuchLetter);
        Due.sentence("(the end, too)", WordBoundariesTest::endInPlaceOfALetter);
        Due.sentence("2 no digit there", WordBoundariesTest::noDigit);
        Due.sentence("3 a fifth digit, at it", WordBoundariesTest::fifthDigit);
        Due.sentence("4 a number that it can't be, at its first digit", WordBoundariesTest::numberThatCantBe);
        Due.sentence("(asked when its digits end)", WordBoundariesTest::askedWhenDigitsEnd);
        Due.sentence("5 something else than ; or the end behind a CLAUSE", WordBoundariesTest::somethingElse);
        Due.sentence("Twenty bytes come behind the tape", WordBoundariesTest::twentyBehindTheTape);
        Due.sentence("the highest of each int first", WordBoundariesTest::highestFirst);
        Due.sentence("how many it has", WordBoundariesTest::howManyItHas);
        Due.sentence("NONE if that would be more than 40", WordBoundariesTest::noMoreThanForty);
        Due.sentence("The first n bytes of the tape", WordBoundariesTest::firstBytesOfTheTape);
        Due.sentence("(empty then)", WordBoundariesTest::emptyThen);
        Due.sentence("are THE TOWN's WORD from now on: 0", WordBoundariesTest::wordFromNowOn);
        Due.sentence("a FAULT: 100 times its number and its place", WordBoundariesTest::faultAndPlace);
        Due.sentence("(it stays)", WordBoundariesTest::wordStays);
        Due.sentence("NONE: it has not so many", WordBoundariesTest::notSoMany);
        Due.sentence("(the tape stays)", WordBoundariesTest::tapeStays);
        Due.end();
    }

    private static void isAnswer(String text, int due) {
        Due.is("word '" + text + "'", due, Due.word(new TowerPipers(), text));
    }

    private static TowerPipers bandWithWord(String text) {
        TowerPipers x = new TowerPipers();
        Due.is("word '" + text + "'", 0, Due.word(x, text));
        return x;
    }

    private static void clausesAreParted() {
        Due.isWord("two", bandWithWord("w2;f3"), 2, 3, 100, 50);
        Due.isWord("four", bandWithWord("g4;p5;f6;w7"), 7, 6, 5, 4);
        isAnswer("w2f3", 502);
        isAnswer("w2:f3", 502);
        isAnswer("w2<f3", 502);
        isAnswer(";w2", 100);
        isAnswer("w2;", 103);
        isAnswer("w2;;f3", 103);
        isAnswer(";", 100);
    }

    private static void noBlanks() {
        isAnswer(" ", 100);
        isAnswer(" w2;f3", 100);
        isAnswer("w 2;f3", 201);
        isAnswer("w2 ;f3", 502);
        isAnswer("w2; f3", 103);
        isAnswer("w2;f 3", 204);
        isAnswer("w2;f3 ", 505);
        isAnswer("w2\t", 502);
        isAnswer("w2\n", 502);
    }

    private static void oneToFourDigits() {
        isAnswer("p", 201);
        Due.is("one", 7, bandWithWord("p7").count(12));
        Due.is("two", 76, bandWithWord("p76").count(12));
        Due.is("three", 765, bandWithWord("p765").count(12));
        Due.is("four", 7654, bandWithWord("p7654").count(12));
        isAnswer("p76543", 305);
        Due.isWord("all digits", bandWithWord("p1234;g5678;w9;f90"), 9, 90, 1234, 5678);
        Due.isWord("zeros ahead", bandWithWord("w0001;f0010;p0009;g0000"), 1, 10, 9, 0);
    }

    /** All numbers from 0 to the most and none of the next ones that four digits can tell. */
    private static void isRange(char letter, int what, int most, int atFirst) {
        Due.is(letter + " at first", atFirst, new TowerPipers().count(what));
        for (int n = 0; n <= Math.min(9999, most + 300); n++) {
            TowerPipers x = new TowerPipers();
            Due.is("word " + letter + n, n <= most ? 0 : 401, Due.word(x, "" + letter + n));
            Due.is(letter + " is", n <= most ? n : atFirst, x.count(what));
        }
        isAnswer(letter + "9999", most == 9999 ? 0 : 401);
        isAnswer(letter + "10000", 305);
        isAnswer(letter + "-1", 201);
        isAnswer(letter + "+1", 201);
    }

    private static void rangeOfW() {
        isRange('w', 10, 20, 1);
    }

    private static void rangeOfF() {
        isRange('f', 11, 100, 10);
    }

    private static void rangeOfP() {
        isRange('p', 12, 9999, 100);
    }

    private static void rangeOfG() {
        isRange('g', 13, 9999, 50);
    }

    private static void untoldIsAsAtFirst() {
        String all = "w2;f3;p4;g5";
        String[] texts = {"w6", "f6", "p6", "g6", "w6;g6", "f6;p6"};
        int[][] due = {{6, 10, 100, 50}, {1, 6, 100, 50}, {1, 10, 6, 50}, {1, 10, 100, 6},
            {6, 10, 100, 6}, {1, 6, 6, 50}};
        for (int k = 0; k < texts.length; k++) {
            TowerPipers x = bandWithWord(all);
            Due.is("word " + texts[k], 0, Due.word(x, texts[k]));
            Due.isWord(texts[k] + " behind " + all, x, due[k][0], due[k][1], due[k][2], due[k][3]);
        }
        Due.isWord("told as it is at first", bandWithWord("w1;f10;p100;g50"), 1, 10, 100, 50);
    }

    private static void laterOneCounts() {
        Due.isWord("lower", bandWithWord("w9;w2"), 2, 10, 100, 50);
        Due.isWord("higher", bandWithWord("w2;w9"), 9, 10, 100, 50);
        Due.isWord("not beside it", bandWithWord("f7;p8;f6;g9;p5;g4"), 1, 6, 5, 4);
        Due.isWord("nine", bandWithWord("w1;w2;w3;w4;w5;w6;w7;w8;w9"), 9, 10, 100, 50);
        Due.isWord("back at first", bandWithWord("g9;g50"), 1, 10, 100, 50);
        isAnswer("w21;w1", 401);
        isAnswer("f101;f10", 401);
    }

    private static void firstFaultFromTheLeft() {
        isAnswer("x;w", 100);
        isAnswer("w;x", 201);
        isAnswer("p12345;w21", 305);
        isAnswer("w21;p12345", 401);
        isAnswer("w1x;w21", 502);
        isAnswer("w1;w21;w1x", 404);
        isAnswer("w1;w2;f101;w;x", 407);
        isAnswer("w;;", 201);
        isAnswer("f101x", 401);
    }

    private static String plain(int one) {
        return String.valueOf((char) one);
    }

    private static boolean isDigit(int one) {
        return one >= 48 && one <= 57;
    }

    private static void noSuchLetter() {
        for (int one = 0; one < 256; one++) {
            boolean letter = one == 119 || one == 102 || one == 112 || one == 103;
            isAnswer(plain(one) + "1", letter ? 0 : 100);
            isAnswer("w1;" + plain(one) + "1", letter ? 0 : 103);
        }
    }

    private static void endInPlaceOfALetter() {
        isAnswer("", 100);
        isAnswer("w1;", 103);
        isAnswer("w1;f22;", 107);
        TowerPipers x = new TowerPipers();
        Due.feed(x, "w1;f2");
        Due.is("a letter behind the end", 103, x.word(3));
        Due.feed(x, "w1");
        Due.is("nothing but the end", 100, x.word(0));
        Due.is("an empty tape", 100, new TowerPipers().word(0));
    }

    private static void noDigit() {
        for (int one = 0; one < 256; one++) {
            isAnswer("w" + plain(one), isDigit(one) ? 0 : 201);
            isAnswer("w1;g" + plain(one), isDigit(one) ? 0 : 204);
        }
        for (String letter : new String[] {"w", "f", "p", "g"}) {
            isAnswer(letter, 201);
            isAnswer("w1;" + letter, 204);
        }
        TowerPipers x = new TowerPipers();
        Due.feed(x, "w1");
        Due.is("a digit behind the end", 201, x.word(1));
    }

    private static void fifthDigit() {
        for (int one = 0; one < 256; one++) {
            isAnswer("p1234" + plain(one), isDigit(one) ? 305 : one == 59 ? 106 : 505);
        }
        isAnswer("w00001", 305);
        isAnswer("p123456", 305);
        isAnswer("w1;g00000", 308);
        isAnswer("g1234;g12345", 311);
        TowerPipers x = new TowerPipers();
        Due.feed(x, "p12345");
        Due.is("a fifth one behind the end", 0, x.word(5));
        Due.is("p", 1234, x.count(12));
    }

    private static void numberThatCantBe() {
        isAnswer("w20", 0);
        isAnswer("w21", 401);
        isAnswer("f100", 0);
        isAnswer("f101", 401);
        isAnswer("w0021", 401);
        isAnswer("f0101", 401);
        isAnswer("w1;f9999", 404);
        isAnswer("p9999;g9999;w21;f1", 413);
    }

    private static void askedWhenDigitsEnd() {
        isAnswer("w99999", 305);
        isAnswer("f10100", 305);
        isAnswer("w99x", 401);
        isAnswer("w99;", 401);
        isAnswer("w9999", 401);
        isAnswer("w9999x", 401);
        isAnswer("f101 ", 401);
        TowerPipers x = new TowerPipers();
        Due.feed(x, "w21");
        Due.is("what is behind the end is none of its digits", 0, x.word(2));
        Due.is("w", 2, x.count(10));
    }

    private static void somethingElse() {
        for (int one = 0; one < 256; one++) {
            isAnswer("p1" + plain(one), isDigit(one) ? 0 : one == 59 ? 103 : 502);
            isAnswer("w1;g12" + plain(one), isDigit(one) ? 0 : one == 59 ? 107 : 506);
        }
        TowerPipers x = new TowerPipers();
        Due.feed(x, "w1x");
        Due.is("something else behind the end", 0, x.word(2));
    }

    private static void twentyBehindTheTape() {
        TowerPipers x = new TowerPipers();
        Due.is("the first twenty", 20, Due.feed(x, "p0001;p0002;p0003;p0"));
        Due.is("twenty more", 40, Due.feed(x, "004;p0005"));
        Due.is("the first ones stay ahead", 0, x.word(29));
        Due.is("p", 5, x.count(12));
        Due.is("all forty are told", 40, Due.feed(x, FORTY));
        Due.is("and read", 0, x.word(40));
        Due.isWord("all forty", x, 9, 12, 1234, 45);
    }

    private static void highestFirst() {
        TowerPipers x = new TowerPipers();
        x.feed(0x7737_3b66, 0x3939_3b70, 0x3132_3334, 0x3b67_3536, 0x3738_3b77);
        x.feed(0x3132_0000, 0, 0, 0, 0);
        Due.is("word", 0, x.word(22));
        Due.isWord("in each int", x, 12, 99, 1234, 5678);
        // A byte above 127 stands ahead in an int below 0, and is no letter.
        x.feed(0xf731_0000, 0, 0, 0, 0);
        Due.is("a high byte", 100, x.word(2));
        x.feed(0x77ff_ffff, 0, 0, 0, 0);
        Due.is("high bytes behind a letter", 201, x.word(4));
    }

    private static void howManyItHas() {
        TowerPipers x = new TowerPipers();
        Due.is("none", 0, x.count(5));
        Due.is("fed", 20, x.feed(0, 0, 0, 0, 0));
        Due.is("twenty", 20, x.count(5));
        Due.is("fed", 40, x.feed(0, 0, 0, 0, 0));
        Due.is("forty", 40, x.count(5));
        x.word(1);
        Due.is("none again", 0, x.count(5));
        Due.is("fed again", 20, x.feed(-1, -1, -1, -1, -1));
    }

    private static void noMoreThanForty() {
        TowerPipers x = new TowerPipers();
        Due.feed(x, FORTY);
        Due.is("sixty", NONE, x.feed(-1, -1, -1, -1, -1));
        Due.is("sixty", NONE, x.feed(0, 0, 0, 0, 0));
        Due.is("still forty", 40, x.count(5));
        Due.is("still the old ones", 0, x.word(40));
        Due.isWord("still the old ones", x, 9, 12, 1234, 45);
        Due.is("room again", 20, x.feed(0, 0, 0, 0, 0));
    }

    private static void firstBytesOfTheTape() {
        int[] answers = {100, 201, 0, 0, 0, 0, 505};
        int[] fines = {50, 50, 1, 12, 123, 1234, 50};
        for (int n = 0; n < answers.length; n++) {
            TowerPipers x = new TowerPipers();
            Due.feed(x, "g1234x");
            Due.is("the first " + n, answers[n], x.word(n));
            Due.is("g of the first " + n, fines[n], x.count(13));
        }
        TowerPipers all = new TowerPipers();
        Due.feed(all, "w2;w3;w4;w5;w6;w7;w8");
        Due.is("all twenty", 0, all.word(20));
        Due.is("w", 8, all.count(10));
        TowerPipers most = new TowerPipers();
        Due.feed(most, FORTY);
        Due.is("all but one", 0, most.word(39));
        Due.is("g", 4, most.count(13));
    }

    private static void emptyThen() {
        TowerPipers x = new TowerPipers();
        Due.feed(x, "w2;f3");
        Due.is("a word", 0, x.word(2));
        Due.is("nothing is left of it", 0, x.count(5));
        Due.is("nothing is left of it", NONE, x.word(1));
        Due.feed(x, "x");
        Due.is("a fault", 100, x.word(1));
        Due.is("nothing is left of a fault", 0, x.count(5));
        Due.feed(x, FORTY);
        Due.is("none of forty", 100, x.word(0));
        Due.is("nothing is left of forty", 0, x.count(5));
        Due.feed(x, "w4");
        Due.is("the next word begins anew", 0, x.word(2));
        Due.is("w", 4, x.count(10));
    }

    private static void wordFromNowOn() {
        TowerPipers x = Bands.of(1, 1);
        x.old(1);
        x.call(0, 0, 1, 0, 0, 0, NONE, 1000);
        x.call(0, 2, 1, 2, 0, 0, NONE, 1000);
        Due.is("one quarter short", 1, x.played());
        Due.is("ten hundredths", 100, x.share(0, NONE));
        Due.is("word", 0, Due.word(x, "w0;f50;p7;g3"));
        Due.is("no way from now on", 3, x.played());
        Due.is("half from now on", 500, x.share(0, NONE));
        Due.is("word", 0, Due.word(x, "w20;f1;p6;g3"));
        Due.is("a long way from now on", 1, x.played());
        x.day();
        Due.is("share and fine", 990 - 3, x.wages(0));
        Due.is("share and fine", 10 + 3, x.wages(NONE));
        Due.is("13 for 6 a year", 2, x.lasts());
        Due.is("word", 0, Due.word(x, "p13"));
        Due.is("13 for 13 a year from now on", 1, x.lasts());
    }

    private static void faultAndPlace() {
        isAnswer("", 100);
        isAnswer("w", 201);
        isAnswer("p00000", 305);
        isAnswer("w21", 401);
        isAnswer("w1x", 502);
        // The highest places that forty bytes have for each of them.
        String most = "w1;w2;w3;w4;w5;w6;w7;w8;w9;f12;p1234;";
        isAnswer(most + "g4;", 140);
        isAnswer("w01;w2;w3;w4;w5;w6;w7;w8;w9;f012;p1234;g", 240);
        isAnswer(most.substring(3) + "p12345", 339);
        isAnswer(most + "w21", 438);
        isAnswer(most + "g4x", 539);
    }

    private static void wordStays() {
        TowerPipers x = bandWithWord("w2;f3;p4;g5");
        String[] faults = {"", "w9;f9;p9;g9;", "w9;f9;p9;g", "w9;f9;p9;g99999", "w9;f9;p9;f101", "w9;f9;p9;g9x"};
        for (String text : faults) {
            Due.yes("a fault '" + text + "'", Due.word(x, text) >= 100);
            Due.isWord("behind '" + text + "'", x, 2, 3, 4, 5);
        }
    }

    private static void notSoMany() {
        TowerPipers x = new TowerPipers();
        Due.is("one of none", NONE, x.word(1));
        Due.is("below none", NONE, x.word(-1));
        Due.feed(x, "w2");
        for (int n : new int[] {21, 22, 40, -1, -20, Integer.MIN_VALUE, Integer.MAX_VALUE}) {
            Due.is(n + " of twenty", NONE, x.word(n));
        }
        x.feed(0, 0, 0, 0, 0);
        for (int n : new int[] {41, 256, -1, -40, Integer.MIN_VALUE, Integer.MAX_VALUE}) {
            Due.is(n + " of forty", NONE, x.word(n));
        }
        Due.isWord("none of it", x, 1, 10, 100, 50);
    }

    private static void tapeStays() {
        TowerPipers x = new TowerPipers();
        Due.feed(x, "w2");
        x.word(21);
        Due.is("twenty", 20, x.count(5));
        x.word(-1);
        Due.is("twenty", 20, x.count(5));
        Due.is("behind it", 40, x.feed(0, 0, 0, 0, 0));
        x.word(41);
        x.word(Integer.MIN_VALUE);
        Due.is("forty", 40, x.count(5));
        Due.is("with what it held", 0, x.word(2));
        Due.is("w", 2, x.count(10));
    }
}
