/** Each promise of the document by its number, as it is used; the boundaries have tests of their own. */
public final class PromisesTest {
    private static final int NONE = TowerPipers.NONE;
    private static final int[] ODD = {Integer.MIN_VALUE, -2, 6, 99, Integer.MAX_VALUE};

    private PromisesTest() {
    }

    public static void main(String[] args) {
        promise01NewObject();
        promise02Feed();
        promise03Word();
        promise03WordFaults();
        promise03WordAndTape();
        promise04Piper();
        promise05Ill();
        promise06Old();
        promise07Pieces();
        promise08Call();
        promise09Off();
        promise10PlayedByOrders();
        promise10PlayedByWays();
        promise10PlayedByPieces();
        promise10PlayedIsCastAnew();
        promise11Who();
        promise11WhoOfFullHouse();
        promise11WhoIsTheLeastRow();
        promise12Tune();
        promise13Heard();
        promise13HeardOverDays();
        promise13HeardOnOneDay();
        promise14Share();
        promise15Day();
        promise15DayFines();
        promise15DayPaysTheOld();
        promise15DayOfAll();
        promise16Lasts();
        promise17Look();
        promise18Wages();
        promise19About();
        promise20Count();
        Due.end();
    }

    private static void promise01NewObject() {
        TowerPipers x = new TowerPipers();
        Due.is("1 NONE", -1, TowerPipers.NONE);
        for (int what = 0; what <= 5; what++) {
            Due.is("1 count " + what, 0, x.count(what));
        }
        int[] word = {1, 10, 100, 50};
        for (int k = 0; k < 4; k++) {
            Due.is("1 word " + k, word[k], x.count(10 + k));
        }
        for (int i = 0; i < 5; i++) {
            Due.is("1 pieces " + i, 1, x.count(20 + i));
        }
        for (int t = 0; t < 10; t++) {
            Due.is("1 tune " + t, NONE, x.count(30 + t));
        }
        Due.is("1 fund", 0, x.wages(NONE));
        Due.is("1 played", 0, x.played());
        Due.is("1 look", NONE, x.look(0, 2));
        Due.is("1 about", NONE, x.about(0, 0));
        Due.is("1 lasts", 9999, x.lasts());
    }

    private static void promise02Feed() {
        TowerPipers x = new TowerPipers();
        Due.is("2 feed", 20, x.feed(0, 0, 0, 0, 0));
        Due.is("2 feed", 40, x.feed(-1, -1, -1, -1, -1));
        Due.is("2 feed full", NONE, x.feed(0, 0, 0, 0, 0));
        Due.is("2 still full", 40, x.count(5));
        Due.is("2 the old bytes", 100, x.word(40));
        Due.is("2 empty", 0, x.count(5));
        Due.is("2 feed again", 20, x.feed(0, 0, 0, 0, 0));

        TowerPipers y = new TowerPipers();
        // w7;f99;p1234;g5678 over all five ints: the highest byte comes first
        Due.is("2 feed", 20, y.feed(0x77373b66, 0x39393b70, 0x31323334, 0x3b673536, 0x37382020));
        Due.is("2 word", 0, y.word(18));
        Due.is("2 w", 7, y.count(10));
        Due.is("2 f", 99, y.count(11));
        Due.is("2 p", 1234, y.count(12));
        Due.is("2 g", 5678, y.count(13));
        // the second twenty come behind the first
        Due.is("2 both", 40, Due.feed(y, "p0001;p0002;p0003;p0004;p0005"));
        Due.is("2 word over both", 0, y.word(29));
        Due.is("2 p", 5, y.count(12));
    }

    private static void promise03Word() {
        TowerPipers x = new TowerPipers();
        Due.is("3 one", 0, Due.word(x, "f37"));
        Due.isWord("3 one", x, 1, 37, 100, 50);
        Due.is("3 as at first again", 0, Due.word(x, "w3"));
        Due.isWord("3 as at first again", x, 3, 10, 100, 50);
        Due.is("3 later counts", 0, Due.word(x, "g1;w2;g3;w4"));
        Due.isWord("3 later counts", x, 4, 10, 100, 3);
        Due.is("3 highest", 0, Due.word(x, "w20;f100;p9999;g9999"));
        Due.isWord("3 highest", x, 20, 100, 9999, 9999);
        Due.is("3 lowest", 0, Due.word(x, "w0;f0;p0;g0"));
        Due.isWord("3 lowest", x, 0, 0, 0, 0);
        Due.is("3 zeros ahead", 0, Due.word(x, "w0020;f0100;p0009"));
        Due.isWord("3 zeros ahead", x, 20, 100, 9, 50);
        Due.is("3 forty bytes", 0, Due.word(x, "w1;w2;w3;w4;w5;w6;w7;w8;w9;f12;p1234;g45"));
        Due.isWord("3 forty bytes", x, 9, 12, 1234, 45);
    }

    private static void promise03WordFaults() {
        TowerPipers x = new TowerPipers();
        Due.is("3", 0, Due.word(x, "w2;f3;p4;g5"));
        String[] texts = {"", "x1", "W1", " w1", "1", ";", "w1;", "w1;;f2", "w1;x", "w1; f2",
            "w", "w;", "wx", "w1;f", "w1;f;", "w-1",
            "w12345", "p12345", "p00001", "p1234x", "w1;g99999", "w99999",
            "w21", "f101", "w99x", "w1;f0101;x", "w9999;;", "w0021",
            "w1x", "w1 ", "w1f2", "w1,f2", "g1234w", "w1;f2:p3", "w20.",
            "w1;w2;w3;w4;w5;w6;w7;w8;w9;f12;p1234;g4;", "w1;w2;w3;w4;w5;w6;w7;w8;w9;f12;p1234;g4g"};
        int[] faults = {100, 100, 100, 100, 100, 100, 103, 103, 103, 103,
            201, 201, 201, 204, 204, 201,
            305, 305, 305, 505, 308, 305,
            401, 401, 401, 404, 401, 401,
            502, 502, 502, 502, 505, 505, 503,
            140, 539};
        for (int k = 0; k < texts.length; k++) {
            Due.is("3 fault of '" + texts[k] + "'", faults[k], Due.word(x, texts[k]));
            Due.is("3 tape is empty", 0, x.count(5));
            Due.isWord("3 stays at '" + texts[k] + "'", x, 2, 3, 4, 5);
        }
        Due.is("3 a byte above 127", 100, Due.word(x, "\u00f71"));
        Due.is("3 bytes beside the digits", 201, Due.word(x, "w/"));
        Due.is("3 bytes beside the digits", 201, Due.word(x, "w:"));
    }

    private static void promise03WordAndTape() {
        TowerPipers x = new TowerPipers();
        Due.is("3 no tape, none asked", 100, x.word(0));
        Due.is("3 no tape", NONE, x.word(1));
        Due.feed(x, "w5");
        Due.is("3 not so many", NONE, x.word(21));
        Due.is("3 below none", NONE, x.word(-1));
        Due.is("3 below none", NONE, x.word(Integer.MIN_VALUE));
        Due.is("3 far above", NONE, x.word(Integer.MAX_VALUE));
        Due.is("3 the tape stays", 20, x.count(5));
        Due.is("3 the first bytes alone", 0, x.word(2));
        Due.is("3 w", 5, x.count(10));
        Due.is("3 the whole tape is gone", 0, x.count(5));
        Due.feed(x, "w50");
        Due.is("3 cut", 0, x.word(2));
        Due.feed(x, "w6");
        Due.is("3 all of it", 502, x.word(20));
        Due.feed(x, "w6");
        Due.is("3 nothing of it", 100, x.word(0));
        Due.is("3 gone, too", 0, x.count(5));
        Due.is("3 w", 5, x.count(10));
    }

    private static void promise04Piper() {
        TowerPipers x = new TowerPipers();
        for (int rank : new int[] {0, 10, -1, Integer.MIN_VALUE, Integer.MAX_VALUE}) {
            Due.is("4 rank", NONE, x.piper(rank, 1));
        }
        for (int plays : new int[] {0, 32, -1, 33, Integer.MIN_VALUE, Integer.MAX_VALUE}) {
            Due.is("4 plays", NONE, x.piper(1, plays));
        }
        Due.is("4 none came", 0, x.count(2));
        for (int p = 0; p < 6; p++) {
            Due.is("4 piper", p, x.piper(p == 5 ? 9 : p + 1, p == 5 ? 31 : p + 1));
            Due.is("4 count", p + 1, x.count(2));
            Due.is("4 well", 0, x.look(p, 2));
        }
        Due.is("4 seventh", NONE, x.piper(1, 1));
        x.old(0);
        Due.is("4 an old one keeps the number", NONE, x.piper(1, 1));
        Due.is("4 count", 6, x.count(2));
        Due.is("4 rank", 9, x.look(5, 0));
        Due.is("4 plays", 31, x.look(5, 1));
    }

    private static void promise05Ill() {
        TowerPipers x = new TowerPipers();
        Due.no("5 no such one", x.ill(0, true));
        x.piper(1, 1);
        Due.no("5 is well", x.ill(0, false));
        Due.yes("5 falls ill", x.ill(0, true));
        Due.is("5 ill", 1, x.look(0, 2));
        Due.no("5 is ill", x.ill(0, true));
        Due.yes("5 well again", x.ill(0, false));
        Due.is("5 well", 0, x.look(0, 2));
        for (int p : ODD) {
            Due.no("5 odd", x.ill(p, true));
        }
        Due.no("5 NONE", x.ill(NONE, true));
        Due.no("5 the next", x.ill(1, true));
        x.old(0);
        Due.no("5 old", x.ill(0, true));
        Due.no("5 old", x.ill(0, false));
        Due.is("5 still old", 2, x.look(0, 2));
    }

    private static void promise06Old() {
        TowerPipers x = new TowerPipers();
        Due.no("6 no such one", x.old(0));
        x.piper(1, 1);
        x.piper(1, 1);
        x.ill(1, true);
        for (int p : ODD) {
            Due.no("6 odd", x.old(p));
        }
        Due.no("6 NONE", x.old(NONE));
        Due.no("6 the next", x.old(2));
        Due.yes("6 old", x.old(0));
        Due.no("6 is old", x.old(0));
        Due.yes("6 from ill", x.old(1));
        Due.is("6 old", 2, x.look(0, 2));
        Due.is("6 old", 2, x.look(1, 2));
        Bands.simple(x, 1, 0, 1, 0);
        Due.is("6 the old play no more", 0, x.played());
    }

    private static void promise07Pieces() {
        TowerPipers x = new TowerPipers();
        for (int i = 0; i < 5; i++) {
            for (int n = 3; n >= 0; n--) {
                Due.yes("7 pieces", x.pieces(i, n));
                Due.is("7 so many", n, x.count(20 + i));
            }
        }
        Due.yes("7 as they are", x.pieces(0, 0));
        for (int i : new int[] {-1, 5, 32, Integer.MIN_VALUE, Integer.MAX_VALUE}) {
            Due.no("7 no such one", x.pieces(i, 1));
        }
        for (int n : new int[] {-1, 4, Integer.MIN_VALUE, Integer.MAX_VALUE}) {
            Due.no("7 not so many", x.pieces(1, n));
        }
        for (int i = 0; i < 5; i++) {
            Due.is("7 unchanged", 0, x.count(20 + i));
        }
    }

    private static void promise08Call() {
        TowerPipers x = new TowerPipers();
        int[] least = {0, 0, 1, 0, 0, 0, -1, 0};
        int[] most = {3, 95, 24, 9, 5, 4, 4, 9999};
        for (int what = 0; what < 8; what++) {
            for (int wrong : new int[] {least[what] - 1, most[what] + 1, Integer.MIN_VALUE, Integer.MAX_VALUE}) {
                int[] f = {1, 10, 2, 3, 4, 1, 2, 50};
                f[what] = wrong;
                Due.is("8 wrong " + what, NONE, x.call(f[0], f[1], f[2], f[3], f[4], f[5], f[6], f[7]));
            }
        }
        Due.is("8 beyond the day", NONE, x.call(0, 95, 2, 0, 0, 0, NONE, 0));
        Due.is("8 beyond the day", NONE, x.call(0, 73, 24, 0, 0, 0, NONE, 0));
        Due.is("8 none came", 0, x.count(3));
        Due.is("8 least", 0, x.call(0, 0, 1, 0, 0, 0, NONE, 0));
        Due.is("8 most", 1, x.call(3, 72, 24, 9, 5, 4, 4, 9999));
        Due.is("8 last quarter", 2, x.call(3, 95, 1, 9, 5, 4, 0, 9999));
        for (int c = 3; c < 6; c++) {
            Due.is("8 next", c, Bands.simple(x, 2, 5, 1, 0));
        }
        Due.is("8 six are there", NONE, Bands.simple(x, 2, 5, 1, 0));
        x.off(4);
        x.off(1);
        Due.is("8 lowest free", 1, Bands.simple(x, 2, 5, 1, 0));
        Due.is("8 lowest free", 4, Bands.simple(x, 2, 5, 1, 0));
        Due.is("8 six again", NONE, Bands.simple(x, 2, 5, 1, 0));
        x.day();
        Due.is("8 a new day", 0, Bands.simple(x, 2, 5, 1, 0));
    }

    private static void promise09Off() {
        TowerPipers x = new TowerPipers();
        Due.no("9 none yet", x.off(0));
        x.piper(1, 1);
        Bands.simple(x, 1, 0, 4, 0);
        Bands.simple(x, 1, 2, 4, 0);
        Due.is("9 the first is played", 1, x.played());
        for (int c : ODD) {
            Due.no("9 odd", x.off(c));
        }
        Due.no("9 NONE", x.off(NONE));
        Due.no("9 the next", x.off(2));
        Due.yes("9 off", x.off(0));
        Due.no("9 is off", x.off(0));
        Due.is("9 the other is played", 2, x.played());
        Due.is("9 count", 1, x.count(3));
        Due.is("9 gone", NONE, x.about(0, 0));
        Due.is("9 gone", NONE, x.who(0, 0));
        x.day();
        Due.no("9 gone by the day", x.off(1));
    }

    private static void promise10PlayedByOrders() {
        TowerPipers x = new TowerPipers();
        x.piper(1, 1);
        Bands.simple(x, 3, 0, 4, 0);
        Due.is("10 alone", 1, x.played());
        Bands.simple(x, 2, 3, 4, 0);
        Due.is("10 lower order", 2, x.played());
        Bands.simple(x, 2, 0, 4, 0);
        Due.is("10 like order, greater number", 2, x.played());
        Bands.simple(x, 0, 6, 1, 0);
        Due.is("10 the town's own frees others", 0b1100, x.played());
        Bands.simple(x, 3, 90, 6, 0);
        Due.is("10 one more", 0b11100, x.played());
        x.ill(0, true);
        Due.is("10 ill", 0, x.played());
        x.ill(0, false);
        Due.is("10 well", 0b11100, x.played());
        x.old(0);
        Due.is("10 old", 0, x.played());
        x.piper(1, 2);
        Due.is("10 another instrument", 0, x.played());
        x.piper(1, 3);
        Due.is("10 another piper", 0b11100, x.played());
    }

    private static void promise10PlayedByWays() {
        TowerPipers x = new TowerPipers();
        x.piper(1, 1);
        x.pieces(0, 3);
        x.call(0, 10, 2, 7, 0, 0, NONE, 0);
        x.call(1, 16, 2, 2, 0, 0, NONE, 0);
        Due.is("10 a quarter short", 1, x.played());
        x.off(1);
        x.call(1, 17, 2, 2, 0, 0, NONE, 0);
        Due.is("10 just there", 3, x.played());
        x.call(2, 2, 2, 1, 0, 0, NONE, 0);
        Due.is("10 just there from ahead", 7, x.played());
        x.off(2);
        x.call(2, 3, 2, 1, 0, 0, NONE, 0);
        Due.is("10 a quarter short from ahead", 3, x.played());
        Due.word(x, "w0");
        Due.is("10 no way at all", 7, x.played());
        Due.word(x, "w2");
        Due.is("10 a longer way", 1, x.played());
        Due.word(x, "x");
        Due.is("10 a fault changes nothing", 1, x.played());
        Due.word(x, "w1");
        x.piper(1, 1);
        Due.is("10 another piper goes", 7, x.played());
        Due.word(x, "w20");
        Due.is("10 each has one", 3, x.played());
    }

    private static void promise10PlayedByPieces() {
        TowerPipers x = new TowerPipers();
        x.piper(1, 31);
        x.piper(1, 31);
        x.piper(1, 31);
        x.call(0, 0, 4, 0, 0, 2, 2, 0);
        Due.is("10 two of one piece", 0, x.played());
        x.pieces(2, 2);
        Due.is("10 two of two pieces", 1, x.played());
        x.call(1, 3, 4, 0, 0, 2, NONE, 0);
        Due.is("10 three of two pieces", 1, x.played());
        x.call(1, 4, 4, 0, 0, 2, NONE, 0);
        Due.is("10 a piece is free at the end", 5, x.played());
        x.pieces(2, 3);
        Due.is("10 three pieces", 7, x.played());
        x.pieces(2, 0);
        Due.is("10 no piece", 0, x.played());

        TowerPipers y = new TowerPipers();
        for (int p = 0; p < 6; p++) {
            y.piper(1, 1);
        }
        y.pieces(0, 2);
        Bands.simple(y, 0, 0, 4, 0);
        Bands.simple(y, 0, 6, 4, 0);
        Bands.simple(y, 1, 0, 10, 0);
        Due.is("10 never more than two at once", 7, y.played());
        Bands.simple(y, 2, 3, 4, 0);
        Due.is("10 three within", 7, y.played());
        Bands.simple(y, 2, 4, 2, 0);
        Due.is("10 two between", 23, y.played());
        Bands.simple(y, 3, 2, 2, 1);
        Due.is("10 another instrument, no piper", 23, y.played());
    }

    private static void promise10PlayedIsCastAnew() {
        TowerPipers x = new TowerPipers();
        x.piper(1, 1);
        x.piper(1, 3);
        x.pieces(0, 2);
        Bands.simple(x, 0, 0, 4, 0);
        Bands.simple(x, 0, 2, 4, 0);
        Bands.simple(x, 1, 3, 4, 1);
        Due.is("10 piper 1 plays the second, so not the third", 0b011, x.played());
        Due.is("10 who", 1, x.who(1, 0));
        x.off(0);
        Due.is("10 cast anew", 0b110, x.played());
        Due.is("10 who", 0, x.who(1, 0));
        Due.is("10 who", 1, x.who(2, 0));

        TowerPipers y = new TowerPipers();
        y.piper(1, 3);
        y.piper(1, 1);
        Bands.simple(y, 0, 0, 4, 0);
        Due.is("10 the lower one", 0, y.who(0, 0));
        Bands.simple(y, 1, 2, 4, 1);
        Due.is("10 both", 3, y.played());
        Due.is("10 the earlier one gives way", 1, y.who(0, 0));
        Due.is("10 the later one", 0, y.who(1, 0));
    }

    private static void promise11Who() {
        TowerPipers x = new TowerPipers();
        x.piper(1, 0b11);
        x.piper(1, 0b01);
        x.piper(1, 0b10);
        x.call(1, 0, 2, 0, 0, 1, 0, 0);
        Due.is("11 first part first", 0, x.who(0, 0));
        Due.is("11 second part", 1, x.who(0, 1));
        x.ill(1, true);
        Due.is("11 the first part gives way", 2, x.who(0, 0));
        Due.is("11 the second part can't", 0, x.who(0, 1));
        x.ill(1, false);
        x.call(0, 10, 2, 0, 0, 0, NONE, 0);
        Due.is("11 one part", 0, x.who(1, 0));
        Due.is("11 no second part", NONE, x.who(1, 1));
        for (int k : new int[] {-1, 2, 3, Integer.MIN_VALUE, Integer.MAX_VALUE}) {
            Due.is("11 no such part", NONE, x.who(0, k));
            Due.is("11 no such part", NONE, x.who(1, k));
        }
        for (int c : ODD) {
            Due.is("11 no such call", NONE, x.who(c, 0));
        }
        Due.is("11 NONE", NONE, x.who(NONE, 0));
        Due.is("11 no call there", NONE, x.who(2, 0));
        x.call(3, 10, 2, 0, 0, 0, NONE, 0);
        Due.is("11 not played", NONE, x.who(2, 0));

        // The row goes by orders: the call of the lower order has the lower piper.
        TowerPipers y = new TowerPipers();
        y.pieces(0, 2);
        y.piper(1, 1);
        y.piper(1, 1);
        Bands.simple(y, 2, 0, 2, 0);
        Bands.simple(y, 1, 0, 2, 0);
        Due.is("11 lower order", 0, y.who(1, 0));
        Due.is("11 higher order", 1, y.who(0, 0));

        // Both parts of one instrument.
        TowerPipers z = new TowerPipers();
        z.pieces(4, 2);
        z.piper(1, 16);
        z.call(1, 0, 2, 0, 0, 4, 4, 0);
        Due.is("11 nobody has two parts", 0, z.played());
        z.piper(1, 16);
        Due.is("11 two", 0, z.who(0, 0));
        Due.is("11 two", 1, z.who(0, 1));
    }

    private static void promise11WhoOfFullHouse() {
        TowerPipers x = new TowerPipers();
        for (int p = 0; p < 6; p++) {
            x.piper(1, p < 4 ? 1 : 2);
        }
        x.pieces(0, 3);
        x.pieces(1, 3);
        for (int c = 0; c < 6; c++) {
            Due.is("11 call", c, x.call(3 - c / 2, c / 3, 4, 0, 0, 1, 0, 0));
        }
        // Of instrument 1 there are two who play it, so two calls at once: those of the lowest orders.
        Due.is("11 two", 0b110000, x.played());
        Due.is("11 who", 4, x.who(4, 0));
        Due.is("11 who", 0, x.who(4, 1));
        Due.is("11 who", 5, x.who(5, 0));
        Due.is("11 who", 1, x.who(5, 1));
        for (int c = 0; c < 6; c++) {
            x.off(c);
        }
        for (int c = 0; c < 6; c++) {
            x.call(c % 4, 10 * c, 10, 0, 0, 0, 1, 0);
        }
        Due.is("11 one behind another", 63, x.played());
        for (int c = 0; c < 6; c++) {
            Due.is("11 the same two", 0, x.who(c, 0));
            Due.is("11 the same two", 4, x.who(c, 1));
        }
        Due.is("11 parts", 6, x.look(0, 3));
        Due.word(x, "w20");
        x.off(3);
        x.call(3, 30, 10, 9, 0, 0, 1, 0);
        Due.is("11 far away", 63, x.played());
        Due.is("11 another two go", 1, x.who(3, 0));
        Due.is("11 another two go", 5, x.who(3, 1));
    }

    private static void promise11WhoIsTheLeastRow() {
        // The last call can only be played by piper 0, the one ahead of it then by piper 1, and so on.
        TowerPipers x = new TowerPipers();
        x.piper(1, 0b10001);
        x.piper(1, 0b00011);
        x.piper(1, 0b00110);
        x.piper(1, 0b01100);
        for (int i = 0; i < 3; i++) {
            x.call(i, 0, 4, 0, 0, i, NONE, 0);
            Due.is("11 lowest", i, x.who(i, 0));
        }
        x.call(3, 3, 4, 0, 0, 4, NONE, 0);
        Due.is("11 all", 15, x.played());
        for (int i = 0; i < 3; i++) {
            Due.is("11 each gives way", i + 1, x.who(i, 0));
        }
        Due.is("11 alone can", 0, x.who(3, 0));
        x.ill(3, true);
        Due.is("11 nobody can give way", 7, x.played());
        for (int i = 0; i < 3; i++) {
            Due.is("11 as before", i, x.who(i, 0));
        }
    }

    private static void promise12Tune() {
        TowerPipers x = new TowerPipers();
        for (int wrong : new int[] {-1, 64, Integer.MIN_VALUE, Integer.MAX_VALUE}) {
            Due.is("12 occasions", NONE, x.tune(wrong, 1));
        }
        for (int wrong : new int[] {-1, 4096, Integer.MIN_VALUE, Integer.MAX_VALUE}) {
            Due.is("12 months", NONE, x.tune(1, wrong));
        }
        Due.is("12 none came", 0, x.count(4));
        for (int t = 0; t < 10; t++) {
            Due.is("12 tune", t, t % 2 == 0 ? x.tune(0, 4095) : x.tune(63, 0));
            Due.is("12 count", t + 1, x.count(4));
        }
        Due.is("12 eleventh", NONE, x.tune(1, 1));
        Due.is("12 count", 10, x.count(4));
    }

    private static void promise13Heard() {
        TowerPipers x = new TowerPipers();
        x.piper(1, 1);
        for (int c = 0; c < 6; c++) {
            x.call(c < 3 ? 2 : 1, 10 * c, 1, 0, c % 3, 0, NONE, 0);
        }
        Due.is("13 no tune", NONE, x.heard(0));
        x.tune(0b001, 0b10);
        Due.is("13 another month", NONE, x.heard(0));
        x.tune(0b001, 0b01);
        x.tune(0b011, 4095);
        x.tune(0b111, 4095);
        // Gone through 3, 4, 5 (order 1), then 0, 1, 2: occasions 0, 1, 2, 0, 1, 2.
        Due.is("13 lowest of the never heard", 1, x.heard(3));
        Due.is("13 the next", 2, x.heard(4));
        Due.is("13 alone fits", 3, x.heard(5));
        Due.is("13 heard first today", 1, x.heard(0));
        Due.is("13 heard longest ago today", 2, x.heard(1));
        Due.is("13 alone fits", 3, x.heard(2));
        x.tune(0b001, 1);
        Due.is("13 never heard ahead of today", 4, x.heard(0));
        x.off(3);
        Due.is("13 gone", NONE, x.heard(3));
        Due.is("13 chosen anew", 2, x.heard(4));
        Due.is("13 chosen anew", 1, x.heard(0));
        for (int c : ODD) {
            Due.is("13 no such call", NONE, x.heard(c));
        }
        Due.is("13 NONE", NONE, x.heard(NONE));
        x.ill(0, true);
        Due.is("13 not played", NONE, x.heard(0));
    }

    private static void promise13HeardOverDays() {
        TowerPipers x = new TowerPipers();
        x.piper(1, 1);
        x.tune(0b01, 4095);
        x.tune(0b11, 4095);
        x.tune(0b01, 4095);
        x.call(1, 0, 1, 0, 1, 0, NONE, 0);
        Due.is("13 day 0", 1, x.heard(0));
        x.day();
        x.call(1, 0, 1, 0, 0, 0, NONE, 0);
        Due.is("13 day 1, never heard", 0, x.heard(0));
        x.day();
        x.call(1, 0, 1, 0, 0, 0, NONE, 0);
        Due.is("13 day 2, never heard", 2, x.heard(0));
        x.day();
        x.call(1, 0, 1, 0, 0, 0, NONE, 0);
        Due.is("13 day 3, longest ago", 1, x.heard(0));
        Due.is("13 not heard yet", 0, x.count(31));
        x.day();
        Due.is("13 heard", 3, x.count(31));

        // Two of one earlier day are no like ones: they keep the order in which they were heard.
        TowerPipers y = new TowerPipers();
        y.piper(1, 1);
        y.tune(0b01, 4095);
        y.tune(0b11, 4095);
        y.call(0, 0, 1, 0, 1, 0, NONE, 0);
        y.call(1, 1, 1, 0, 0, 0, NONE, 0);
        Due.is("13 tune 1 first", 1, y.heard(0));
        Due.is("13 then tune 0", 0, y.heard(1));
        y.day();
        y.call(0, 0, 1, 0, 0, 0, NONE, 0);
        Due.is("13 heard first on an earlier day", 1, y.heard(0));
        y.day();
        for (int d = 2; d < 9; d++) {
            y.call(0, 0, 1, 0, 0, 0, NONE, 0);
            Due.is("13 in turns, day " + d, d % 2, y.heard(0));
            Due.is("13 heard yesterday", d - 1, y.count(31 - d % 2));
            y.day();
        }

        // The month goes on with the days.
        TowerPipers z = new TowerPipers();
        z.piper(1, 1);
        z.tune(63, 0b01);
        z.tune(63, 0b10);
        for (int d = 0; d < 29; d++) {
            z.day();
        }
        z.call(1, 0, 1, 0, 0, 0, NONE, 0);
        Due.is("13 day 29", 0, z.heard(0));
        z.day();
        z.call(1, 0, 1, 0, 0, 0, NONE, 0);
        Due.is("13 day 30", 1, z.heard(0));
    }

    /** Tunes of one earlier day, where calls' numbers and the order of the calls are not the same. */
    private static void promise13HeardOnOneDay() {
        TowerPipers x = new TowerPipers();
        x.piper(1, 1);
        for (int t = 0; t < 3; t++) {
            x.tune(1 | 2 << t, 4095);
        }
        // By their orders: tunes 2, 0, 1 and tune 2 once more, which makes it the last.
        x.call(3, 0, 1, 0, 3, 0, NONE, 0);
        x.call(2, 1, 1, 0, 2, 0, NONE, 0);
        x.call(1, 2, 1, 0, 1, 0, NONE, 0);
        x.call(0, 3, 1, 0, 3, 0, NONE, 0);
        // Not played, for there is no piece left: its tune is not heard.
        x.call(3, 0, 1, 0, 1, 0, NONE, 0);
        Due.is("13 played", 0b1111, x.played());
        x.day();
        for (int t = 0; t < 3; t++) {
            Due.is("13 all of day 0", 0, x.count(30 + t));
        }
        for (int c = 0; c < 6; c++) {
            x.call(0, c, 1, 0, 0, 0, NONE, 0);
        }
        for (int c = 0; c < 6; c++) {
            Due.is("13 in the order of day 0, call " + c, c % 3, x.heard(c));
        }
        // A day without calls changes nothing: the order is still that of day 0.
        for (int c = 0; c < 6; c++) {
            x.off(c);
        }
        x.day();
        x.call(0, 0, 1, 0, 3, 0, NONE, 0);
        x.call(1, 1, 1, 0, 0, 0, NONE, 0);
        x.call(1, 2, 1, 0, 0, 0, NONE, 0);
        x.call(1, 3, 1, 0, 0, 0, NONE, 0);
        Due.is("13 alone fits", 2, x.heard(0));
        Due.is("13 before the one of today", 0, x.heard(1));
        Due.is("13 before the one of today", 1, x.heard(2));
        Due.is("13 the first of today", 2, x.heard(3));
        x.day();
        // Those of day 2 come behind a tune of no day at all.
        x.tune(1, 4095);
        x.call(0, 0, 1, 0, 0, 0, NONE, 0);
        x.call(0, 1, 1, 0, 0, 0, NONE, 0);
        Due.is("13 never heard", 3, x.heard(0));
        Due.is("13 heard longest ago", 0, x.heard(1));
    }

    private static void promise14Share() {
        TowerPipers x = new TowerPipers();
        x.piper(9, 1);
        x.piper(3, 1);
        x.call(1, 0, 1, 0, 0, 0, NONE, 999);
        Due.is("14 the fund, rounded down", 99, x.share(0, NONE));
        Due.is("14 the rest to one", 900, x.share(0, 0));
        Due.is("14 does not play", 0, x.share(0, 1));
        Due.is("14 no such piper", NONE, x.share(0, 2));
        for (int p : ODD) {
            Due.is("14 no such piper", NONE, x.share(0, p));
        }
        for (int c : ODD) {
            Due.is("14 no such call", NONE, x.share(c, 0));
            Due.is("14 no such call", NONE, x.share(c, NONE));
        }
        Due.is("14 NONE", NONE, x.share(NONE, NONE));
        Due.is("14 no call there", NONE, x.share(1, 0));
        x.call(2, 0, 1, 0, 0, 0, NONE, 999);
        Due.is("14 not played", NONE, x.share(1, 0));
        Due.is("14 not played", NONE, x.share(1, NONE));
        Due.word(x, "f100");
        Due.is("14 all to the fund", 999, x.share(0, NONE));
        Due.is("14 nothing", 0, x.share(0, 0));
        Due.word(x, "f0");
        Due.is("14 none to the fund", 0, x.share(0, NONE));
        Due.is("14 all", 999, x.share(0, 0));
        x.off(0);
        x.off(1);
        x.call(1, 0, 1, 0, 0, 0, NONE, 0);
        Due.is("14 no fee", 0, x.share(0, NONE));
        Due.is("14 no fee", 0, x.share(0, 0));
    }

    private static void promise15Day() {
        TowerPipers x = new TowerPipers();
        x.piper(3, 1);
        x.piper(1, 2);
        x.tune(63, 4095);
        x.tune(63, 4095);
        x.call(1, 0, 1, 0, 0, 0, 1, 1000);
        x.call(3, 5, 2, 0, 0, 1, NONE, 50);
        x.call(3, 5, 2, 0, 0, 1, NONE, 50);
        x.call(3, 5, 2, 0, 0, 4, NONE, 50);
        Due.is("15 day", 1, x.day());
        Due.is("15 wages", 675, x.wages(0));
        Due.is("15 wages", 225 + 45, x.wages(1));
        Due.is("15 fund", 105, x.wages(NONE));
        Due.is("15 tune heard", 0, x.count(30));
        Due.is("15 tune heard", 0, x.count(31));
        Due.is("15 calls are gone", 0, x.count(3));
        Due.is("15 calls are gone", 0, x.played());
        Due.is("15 calls are gone", NONE, x.about(0, 0));
        Due.is("15 nothing comes twice", 2, x.day());
        Due.is("15 wages", 675, x.wages(0));
        Due.is("15 fund", 105, x.wages(NONE));
        Due.is("15 tune not heard again", 0, x.count(30));
        x.call(1, 0, 1, 0, 0, 0, NONE, 10);
        x.day();
        Due.is("15 wages come together", 684, x.wages(0));
        Due.is("15 tune heard again", 2, x.count(30));
    }

    private static void promise15DayFines() {
        TowerPipers x = new TowerPipers();
        x.piper(1, 1);
        x.piper(1, 1);
        x.piper(1, 1);
        x.piper(1, 2);
        x.ill(1, true);
        x.old(2);
        Bands.simple(x, 0, 0, 4, 0);
        Bands.simple(x, 0, 2, 4, 0);
        Bands.simple(x, 0, 2, 4, 0);
        Bands.simple(x, 1, 2, 4, 0);
        x.day();
        Due.is("15 share and two fines", 90 - 100, x.wages(0));
        Due.is("15 the ill pay none", 0, x.wages(1));
        Due.is("15 the old pay none", 0, x.wages(2));
        Due.is("15 all that are well pay", -100, x.wages(3));
        Due.is("15 fines come to the fund", 10 + 200, x.wages(NONE));
        Due.word(x, "g9999");
        Bands.simple(x, 0, 0, 4, 4);
        x.off(0);
        Bands.simple(x, 1, 0, 4, 4);
        x.day();
        Due.is("15 no fine for other orders, nor for what is off", -100, x.wages(3));
        Bands.simple(x, 0, 0, 4, 4);
        x.day();
        Due.is("15 another fine", -10099, x.wages(3));
        Due.is("15 fund", 210 + 2 * 9999, x.wages(NONE));
        Due.word(x, "g0");
        Bands.simple(x, 0, 0, 4, 4);
        x.day();
        Due.is("15 no fine", -10099, x.wages(3));
    }

    private static void promise15DayPaysTheOld() {
        TowerPipers x = new TowerPipers();
        for (int p = 0; p < 4; p++) {
            x.piper(1, 1);
        }
        Due.word(x, "f100;p100");
        x.call(1, 0, 1, 0, 0, 0, NONE, 250);
        for (int d = 1; d < 360; d++) {
            x.day();
        }
        x.old(0);
        x.old(2);
        x.ill(3, true);
        Due.is("15 day 359", 250, x.wages(NONE));
        Due.is("15 month 11", 11, x.count(1));
        x.call(1, 0, 1, 0, 0, 0, NONE, 13);
        x.old(1);
        Due.is("15 nobody left to play", 0, x.played());
        Due.is("15 day 360", 360, x.day());
        Due.is("15 month 0", 0, x.count(1));
        Due.is("15 the first has all", 100, x.wages(0));
        Due.is("15 the second has all", 100, x.wages(1));
        Due.is("15 the third has what there is", 50, x.wages(2));
        Due.is("15 the ill have none", 0, x.wages(3));
        Due.is("15 fund", 0, x.wages(NONE));
        x.day();
        Due.is("15 not each day", 100, x.wages(0));

        // What the last day brings is there to be paid.
        TowerPipers y = new TowerPipers();
        y.piper(1, 1);
        y.piper(1, 1);
        y.old(0);
        for (int d = 1; d < 360; d++) {
            y.day();
        }
        y.call(1, 0, 1, 0, 0, 0, NONE, 1500);
        Due.is("15 day 360", 360, y.day());
        Due.is("15 paid of that day's share", 100, y.wages(0));
        Due.is("15 fund", 50, y.wages(NONE));
        Due.is("15 the piper", 1350, y.wages(1));
    }

    private static void promise15DayOfAll() {
        TowerPipers x = new TowerPipers();
        for (int p = 0; p < 6; p++) {
            x.piper(1, 1);
        }
        for (int t = 0; t < 10; t++) {
            x.tune(63, 4095);
        }
        for (int c = 0; c < 6; c++) {
            Bands.simple(x, 0, c, 1, 0);
        }
        Due.is("15 all calls", 6, x.count(3));
        Due.is("15 the last tune of the day", 5, x.heard(5));
        Due.is("15 share of the last call", 90, x.share(5, 0));
        Due.yes("15 the last one is off", x.off(5));
        Bands.simple(x, 0, 5, 1, 1);
        Due.is("15 about the last one", 1, x.about(5, 5));
        x.day();
        Due.is("15 five shares and a fine", 5 * 90 - 50, x.wages(0));
        Due.is("15 a fine of the last piper", -50, x.wages(5));
        Due.is("15 five shares and six fines", 50 + 300, x.wages(NONE));
        for (int c = 0; c < 6; c++) {
            Bands.simple(x, 0, c, 1, 0);
        }
        Due.is("15 the last tune", 9, x.heard(4));
        Due.is("15 then the first", 0, x.heard(5));
        for (int p = 0; p < 6; p++) {
            Due.is("15 no part", p == 0 ? 6 : 0, x.look(p, 3));
        }
        x.day();
        Due.is("15 the last tune is heard", 1, x.count(39));
        Due.is("15 the first is heard again", 1, x.count(30));
        Due.is("15 the second is not", 0, x.count(31));
        for (int p = 0; p < 6; p++) {
            x.old(p);
        }
        Due.is("15 fund", 410, x.wages(NONE));
        Due.is("15 no whole year", 0, x.lasts());
        for (int d = 2; d < 360; d++) {
            x.day();
        }
        Due.is("15 four are paid whole", 100 - 50, x.wages(3));
        Due.is("15 the fifth is paid in part", 10 - 50, x.wages(4));
        Due.is("15 the sixth has none", -50, x.wages(5));
        Due.is("15 fund", 0, x.wages(NONE));
    }

    private static void promise16Lasts() {
        TowerPipers x = new TowerPipers();
        Due.is("16 nobody", 9999, x.lasts());
        for (int p = 0; p < 3; p++) {
            x.piper(1, 1);
        }
        Due.is("16 nobody old", 9999, x.lasts());
        x.ill(1, true);
        x.old(1);
        Due.is("16 an empty fund", 0, x.lasts());
        Due.word(x, "p0");
        Due.is("16 p is 0", 9999, x.lasts());
        Due.word(x, "f100");
        for (int d = 0; d < 3; d++) {
            x.call(1, 0, 1, 0, 0, 0, NONE, 9999);
            x.day();
        }
        Due.is("16 one old", 299, x.lasts());
        x.old(2);
        Due.is("16 two old, whole", 149, x.lasts());
        Due.word(x, "p1");
        Due.is("16 at most", 9999, x.lasts());
        Due.word(x, "p2");
        Due.is("16 below it", 7499, x.lasts());
        Due.word(x, "p9999");
        Due.is("16 the third", 1, x.lasts());
        x.old(0);
        Due.is("16 just whole", 1, x.lasts());
        Due.is("16 fund unchanged", 29997, x.wages(NONE));

        TowerPipers y = new TowerPipers();
        y.piper(1, 1);
        y.piper(1, 1);
        y.old(1);
        Due.word(y, "f100;p1");
        y.call(1, 0, 1, 0, 0, 0, NONE, 9998);
        y.day();
        Due.is("16 one short of the most", 9998, y.lasts());
        y.old(0);
        Due.is("16 for two", 4999, y.lasts());
    }

    private static void promise17Look() {
        TowerPipers x = new TowerPipers();
        x.piper(7, 0b101);
        x.piper(2, 0b010);
        Due.is("17 rank", 7, x.look(0, 0));
        Due.is("17 instruments", 5, x.look(0, 1));
        Due.is("17 well", 0, x.look(0, 2));
        Due.is("17 no part", 0, x.look(0, 3));
        Due.is("17 rank", 2, x.look(1, 0));
        Due.is("17 instruments", 2, x.look(1, 1));
        Bands.simple(x, 1, 0, 1, 0);
        x.call(1, 1, 1, 0, 0, 2, 1, 0);
        Bands.simple(x, 2, 1, 1, 0);
        Due.is("17 parts", 2, x.look(0, 3));
        Due.is("17 parts", 1, x.look(1, 3));
        x.ill(1, true);
        Due.is("17 ill", 1, x.look(1, 2));
        Due.is("17 parts of the ill", 0, x.look(1, 3));
        Due.is("17 parts", 2, x.look(0, 3));
        x.old(0);
        Due.is("17 old", 2, x.look(0, 2));
        Due.is("17 old keep their rank", 7, x.look(0, 0));
        Due.is("17 parts of the old", 0, x.look(0, 3));
        for (int what : new int[] {-1, 4, 5, Integer.MIN_VALUE, Integer.MAX_VALUE}) {
            Due.is("17 no such thing", NONE, x.look(0, what));
        }
        for (int p : ODD) {
            Due.is("17 no such piper", NONE, x.look(p, 0));
        }
        Due.is("17 NONE", NONE, x.look(NONE, 0));
        for (int what = 0; what < 4; what++) {
            Due.is("17 the next", NONE, x.look(2, what));
        }
    }

    private static void promise18Wages() {
        TowerPipers x = new TowerPipers();
        x.piper(1, 1);
        Bands.simple(x, 1, 0, 1, 0);
        Due.is("18 not yet", 0, x.wages(0));
        Due.is("18 not yet", 0, x.wages(NONE));
        x.day();
        Due.is("18 wages", 90, x.wages(0));
        Due.is("18 the fund", 10, x.wages(NONE));
        Due.is("18 the next", 0, x.wages(1));
        for (int p : ODD) {
            Due.is("18 no such piper", 0, x.wages(p));
        }
        Bands.simple(x, 0, 0, 1, 3);
        x.day();
        Bands.simple(x, 0, 0, 1, 3);
        x.day();
        Due.is("18 below 0", -10, x.wages(0));
        x.old(0);
        Due.is("18 of the old", -10, x.wages(0));
    }

    private static void promise19About() {
        TowerPipers x = new TowerPipers();
        x.call(3, 20, 7, 9, 5, 4, 2, 1234);
        x.call(0, 1, 2, 3, 4, 1, NONE, 0);
        int[] first = {3, 20, 7, 9, 5, 4, 2, 1234};
        int[] second = {0, 1, 2, 3, 4, 1, NONE, 0};
        for (int what = 0; what < 8; what++) {
            Due.is("19 about " + what, first[what], x.about(0, what));
            Due.is("19 about " + what, second[what], x.about(1, what));
            Due.is("19 no such call", NONE, x.about(2, what));
        }
        for (int what : new int[] {-1, 8, 9, Integer.MIN_VALUE, Integer.MAX_VALUE}) {
            Due.is("19 no such thing", NONE, x.about(0, what));
        }
        for (int c : ODD) {
            Due.is("19 no such call", NONE, x.about(c, 0));
        }
        Due.is("19 NONE", NONE, x.about(NONE, 0));
        x.off(0);
        Due.is("19 off", NONE, x.about(0, 0));
        Due.is("19 the other stays", 4, x.about(1, 4));
    }

    private static void promise20Count() {
        TowerPipers x = new TowerPipers();
        for (int d = 0; d < 95; d++) {
            x.day();
        }
        x.piper(1, 1);
        x.piper(1, 1);
        x.tune(63, 4095);
        x.tune(63, 4095);
        x.tune(63, 4095);
        for (int c = 0; c < 4; c++) {
            Bands.simple(x, 1, c * 5, 1, 0);
        }
        x.off(1);
        x.off(2);
        x.feed(1, 2, 3, 4, 5);
        x.pieces(1, 3);
        x.pieces(4, 2);
        int[] due = {95, 3, 2, 2, 3, 20};
        for (int what = 0; what < 6; what++) {
            Due.is("20 count " + what, due[what], x.count(what));
        }
        int[] pieces = {1, 3, 1, 1, 2};
        for (int i = 0; i < 5; i++) {
            Due.is("20 pieces " + i, pieces[i], x.count(20 + i));
        }
        x.day();
        Due.is("20 heard", 95, x.count(30));
        Due.is("20 heard", 95, x.count(31));
        Due.is("20 never heard", NONE, x.count(32));
        Due.is("20 not there", NONE, x.count(33));
        Due.is("20 no calls", 0, x.count(3));
        for (int what : new int[] {-1, 6, 9, 14, 19, 25, 29, 39, 40, Integer.MIN_VALUE, Integer.MAX_VALUE}) {
            Due.is("20 no such thing " + what, NONE, x.count(what));
        }
    }
}
