/** The boundaries of calls, of which are played and by whom: each sentence of the document by a test of its own. */
public final class CallBoundariesTest {
    private static final int NONE = TowerPipers.NONE;
    private static final int ALL = 31;
    private static final int[] NO_NUMBERS = {Integer.MIN_VALUE, -32, -2, NONE, 6, 7, 32, 33, 64, Integer.MAX_VALUE};

    private CallBoundariesTest() {
    }

    public static void main(String[] args) {
        Due.sentence("has QUARTERS 0 to 95", CallBoundariesTest::quarters);
        Due.sentence("CALLS of this DAY, numbers 0 to 5", CallBoundariesTest::numbers);
        Due.sentence("of an ORDER (0 the town's own, to 3)", CallBoundariesTest::orders);
        Due.sentence("from a QUARTER on for so many (1 to 24; not beyond 96)", CallBoundariesTest::lengths);
        Due.sentence("at a PLACE (0 to 9)", CallBoundariesTest::places);
        Due.sentence("an OCCASION (0 to 5)", CallBoundariesTest::occasions);
        Due.sentence("with one PART or two (an INSTRUMENT each)", CallBoundariesTest::oneOrTwoParts);
        Due.sentence("for a FEE (0 to 9999 pence)", CallBoundariesTest::fees);
        Due.sentence("One can be called off.", CallBoundariesTest::calledOff);
        Due.sentence("each PART can have a PIPER, well", CallBoundariesTest::wellPipers);
        Due.sentence("who plays its INSTRUMENT", CallBoundariesTest::whoPlaysIt);
        Due.sentence("none has two PARTS of one CALL", CallBoundariesTest::noTwoPartsOfOneCall);
        Due.sentence("the later one (by its first QUARTER", CallBoundariesTest::laterByFirstQuarter);
        Due.sentence("of like ones the greater number)", CallBoundariesTest::likeFirstQuarters);
        Due.sentence("does not begin w times the difference of their PLACES or more behind the end of the other one",
            CallBoundariesTest::waysBetween);
        Due.sentence("in each QUARTER no INSTRUMENT is in more PARTS than it has PIECES",
            CallBoundariesTest::piecesInEachQuarter);
        Due.sentence("PLAYED are CALLS, gone through by their ORDERS, of like ones by numbers",
            CallBoundariesTest::byOrdersAndNumbers);
        Due.sentence("each that can be PLAYED together with those that are PLAYED by then",
            CallBoundariesTest::withThoseThatArePlayed);
        Due.sentence("of all ways to give their PARTS PIPERS the least row", CallBoundariesTest::leastRow);
        Due.sentence("CALLS in that same order, each its first PART, then its second one, the lower PIPER first",
            CallBoundariesTest::orderOfTheRow);
        Due.sentence("A CALL of this DAY (two NONE: one PART)", CallBoundariesTest::twoNone);
        Due.sentence("its number, the lowest that is free", CallBoundariesTest::lowestFreeNumber);
        Due.sentence("NONE: no such ones, 6 are there", CallBoundariesTest::sixAreThere);
        Due.sentence("CALL c is called off: true; false: there is none such", CallBoundariesTest::noneSuchToCallOff);
        Due.sentence("CALLS that are PLAYED, as bits", CallBoundariesTest::playedBits);
        Due.sentence("WHO has PART k (0, 1) of CALL c", CallBoundariesTest::partsOfWho);
        Due.sentence("NONE: it is not PLAYED, there is none such", CallBoundariesTest::nobodyPlays);
        Due.sentence("Of CALL c, what 0 its ORDER, 1 from, 2 length, 3 PLACE, 4 OCCASION, "
            + "5, 6 INSTRUMENTS of its PARTS (NONE), 7 the FEE. NONE for others.", CallBoundariesTest::about);
        Due.end();
    }

    /** Whether a new band takes a call of these facts, and tells them again, or refuses it. */
    private static void isTaken(boolean taken, int... facts) {
        TowerPipers x = new TowerPipers();
        StringBuilder text = new StringBuilder("call");
        for (int fact : facts) {
            text.append(' ').append(fact);
        }
        Due.is(text.toString(), taken ? 0 : NONE, Bands.call(x, facts));
        Due.is(text + ": calls", taken ? 1 : 0, x.count(3));
        for (int what = 0; what < 8; what++) {
            Due.is(text + ": about " + what, taken ? facts[what] : NONE, x.about(0, what));
        }
    }

    /** Of one fact, all numbers from the least to the most, and those beside them. */
    private static void isRange(int what, int least, int most) {
        int[] facts = {1, 10, 2, 3, 4, 1, 2, 50};
        for (int number = least - 3; number <= most + 3; number++) {
            facts[what] = number;
            isTaken(number >= least && number <= most, facts);
        }
        for (int far : new int[] {Integer.MIN_VALUE, Integer.MIN_VALUE + least, Integer.MAX_VALUE}) {
            facts[what] = far;
            isTaken(false, facts);
        }
    }

    private static void quarters() {
        for (int from = -3; from < 100; from++) {
            isTaken(from >= 0 && from <= 95, 1, from, 1, 0, 0, 0, NONE, 0);
        }
        isTaken(false, 1, Integer.MIN_VALUE, 1, 0, 0, 0, NONE, 0);
        isTaken(false, 1, Integer.MAX_VALUE, 1, 0, 0, 0, NONE, 0);
        // The last quarter can be played in, and follows the one ahead of it.
        TowerPipers x = Bands.of(1);
        Bands.simple(x, 1, 94, 1, 0);
        Bands.simple(x, 1, 95, 1, 0);
        Bands.simple(x, 1, 0, 1, 0);
        Due.is("the last quarters and the first", 7, x.played());
    }

    private static void numbers() {
        TowerPipers x = Bands.of(1);
        Due.is("none yet", NONE, x.about(0, 0));
        for (int c = 0; c <= 5; c++) {
            Due.is("number", c, Bands.simple(x, 1, 10 * c, 1, 0));
            Due.is("there", 10 * c, x.about(c, 1));
            Due.is("not there", NONE, x.about(c + 1, 1));
            Due.is("so many", c + 1, x.count(3));
        }
        Due.is("all", 63, x.played());
        Due.is("a seventh", NONE, Bands.simple(x, 1, 80, 1, 0));
        Due.is("so many", 6, x.count(3));
        Due.is("all", 63, x.played());
    }

    private static void orders() {
        isRange(0, 0, 3);
        // 0 alone is the town's own: only then a call that is missed is fined.
        for (int order = 0; order <= 3; order++) {
            TowerPipers x = Bands.of(1);
            Bands.simple(x, order, 0, 1, 4);
            x.day();
            Due.is("wages, order " + order, order == 0 ? -50 : 0, x.wages(0));
        }
    }

    private static void lengths() {
        isRange(2, 1, 24);
        isTaken(true, 1, 72, 24, 0, 0, 0, NONE, 0);
        isTaken(false, 1, 73, 24, 0, 0, 0, NONE, 0);
        isTaken(true, 1, 73, 23, 0, 0, 0, NONE, 0);
        isTaken(true, 1, 95, 1, 0, 0, 0, NONE, 0);
        isTaken(false, 1, 95, 2, 0, 0, 0, NONE, 0);
        isTaken(false, 1, 95, 24, 0, 0, 0, NONE, 0);
        isTaken(false, 1, 96, 1, 0, 0, 0, NONE, 0);
        isTaken(false, 1, 96, 0, 0, 0, 0, NONE, 0);
        // Sums that go round: below 0, and back to a quarter.
        isTaken(false, 1, Integer.MAX_VALUE, 24, 0, 0, 0, NONE, 0);
        isTaken(false, 1, 24, Integer.MAX_VALUE, 0, 0, 0, NONE, 0);
        isTaken(false, 1, Integer.MIN_VALUE, Integer.MIN_VALUE, 0, 0, 0, NONE, 0);
        isTaken(false, 1, -5, 10, 0, 0, 0, NONE, 0);
    }

    private static void places() {
        isRange(3, 0, 9);
    }

    private static void occasions() {
        isRange(4, 0, 5);
    }

    private static void oneOrTwoParts() {
        isRange(5, 0, 4);
        isRange(6, NONE, 4);
        isTaken(true, 1, 0, 1, 0, 0, 4, 4, 0);
        isTaken(false, 1, 0, 1, 0, 0, NONE, 0, 0);
        isTaken(false, 1, 0, 1, 0, 0, NONE, NONE, 0);
        // Both parts of the highest instrument, and of the lowest one.
        TowerPipers x = Bands.of(1, 1, 16, 16);
        x.call(1, 0, 1, 0, 0, 4, 4, 0);
        x.call(1, 0, 1, 0, 0, 0, 0, 0);
        x.call(1, 1, 1, 0, 0, 4, NONE, 0);
        Due.is("all", 7, x.played());
        Due.is("two parts", 2, x.look(2, 3));
        Due.is("one part", 1, x.look(3, 3));
    }

    private static void fees() {
        for (int fee : new int[] {0, 1, 9998, 9999}) {
            isTaken(true, 1, 0, 1, 0, 0, 0, NONE, fee);
        }
        for (int fee : new int[] {-1, 10000, Integer.MIN_VALUE, Integer.MAX_VALUE}) {
            isTaken(false, 1, 0, 1, 0, 0, 0, NONE, fee);
        }
    }

    private static void calledOff() {
        TowerPipers x = Bands.of(1);
        for (int c = 0; c < 6; c++) {
            Bands.simple(x, 0, c, 1, 0);
        }
        int left = 63;
        for (int c : new int[] {5, 0, 3, 1, 4, 2}) {
            Due.yes("off " + c, x.off(c));
            left &= ~(1 << c);
            Due.is("played without " + c, left, x.played());
            Due.is("no call " + c, NONE, x.about(c, 0));
        }
        Due.is("no calls", 0, x.count(3));
        x.day();
        Due.is("no share and no fine", 0, x.wages(0));
        Due.is("no share and no fine", 0, x.wages(NONE));
    }

    private static void wellPipers() {
        TowerPipers x = Bands.of();
        Bands.simple(x, 1, 0, 1, 0);
        Due.is("nobody is there", 0, x.played());
        x.piper(1, 1);
        Due.is("one is", 1, x.played());
        x.ill(0, true);
        Due.is("ill", 0, x.played());
        x.ill(0, false);
        Due.is("well again", 1, x.played());
        x.old(0);
        Due.is("old", 0, x.played());
        x.piper(1, 1);
        Due.is("another one", 1, x.who(0, 0));
        x.ill(1, true);
        x.old(1);
        Due.is("old, who was ill", 0, x.played());
        for (int p = 2; p < 6; p++) {
            x.piper(1, p == 5 ? 1 : 2);
        }
        Due.is("the last of six", 5, x.who(0, 0));
    }

    private static void whoPlaysIt() {
        for (int plays = 1; plays <= ALL; plays++) {
            TowerPipers x = Bands.of(plays);
            for (int i = 0; i < 5; i++) {
                Bands.simple(x, 1, i, 1, i);
            }
            Due.is("who plays " + plays, plays, x.played());
        }
        TowerPipers y = Bands.of(1, 2);
        y.call(1, 0, 1, 0, 0, 0, 1, 0);
        y.call(1, 1, 1, 0, 0, 0, 2, 0);
        y.call(1, 2, 1, 0, 0, 2, 0, 0);
        y.call(1, 3, 1, 0, 0, 1, 0, 0);
        Due.is("each part wants one", 0b1001, y.played());
    }

    private static void noTwoPartsOfOneCall() {
        TowerPipers x = Bands.of(ALL);
        x.call(1, 0, 1, 0, 0, 0, 1, 0);
        x.call(1, 10, 1, 0, 0, 0, 0, 0);
        x.call(1, 20, 1, 0, 0, 4, NONE, 0);
        Due.is("one alone", 0b100, x.played());
        x.piper(1, 1);
        Due.is("another one for instrument 0", 0b111, x.played());
        Due.is("first part", 1, x.who(0, 0));
        Due.is("second part", 0, x.who(0, 1));
        Due.word(x, "w0");
        Due.is("also without ways", 0b111, x.played());
        x.ill(1, true);
        Due.is("also without ways", 0b100, x.played());
    }

    private static void laterByFirstQuarter() {
        TowerPipers x = Bands.of(1);
        x.call(0, 10, 2, 5, 0, 0, NONE, 0);
        x.call(0, 4, 3, 2, 0, 0, NONE, 0);
        Due.is("the later one has the lower number", 3, x.played());
        x.off(0);
        x.off(1);
        x.call(0, 4, 3, 2, 0, 0, NONE, 0);
        x.call(0, 10, 2, 5, 0, 0, NONE, 0);
        Due.is("the later one has the greater number", 3, x.played());
        TowerPipers y = Bands.of(1);
        y.call(0, 10, 2, 5, 0, 0, NONE, 0);
        y.call(0, 5, 3, 2, 0, 0, NONE, 0);
        y.call(0, 14, 3, 2, 0, 0, NONE, 0);
        y.call(0, 15, 3, 2, 0, 0, NONE, 0);
        Due.is("a quarter short on either side", 0b1001, y.played());
        // A long one that begins first and ends last.
        TowerPipers z = Bands.of(1);
        Bands.simple(z, 0, 10, 20, 0);
        Bands.simple(z, 1, 15, 1, 0);
        Bands.simple(z, 1, 29, 1, 0);
        Bands.simple(z, 1, 30, 1, 0);
        Bands.simple(z, 1, 9, 1, 0);
        Bands.simple(z, 1, 9, 2, 0);
        Due.is("none within it", 0b11001, z.played());
    }

    private static void likeFirstQuarters() {
        int[][] lengths = {{1, 1}, {1, 24}, {24, 1}, {5, 5}};
        for (int[] two : lengths) {
            for (int place = 0; place < 10; place += 9) {
                TowerPipers x = Bands.of(1);
                Due.word(x, "w0");
                x.call(1, 7, two[0], place, 0, 0, NONE, 0);
                x.call(1, 7, two[1], 0, 0, 0, NONE, 0);
                Due.is("one can't begin both", 1, x.played());
                x.piper(1, 1);
                Due.is("two can", 3, x.played());
                Due.is("the lower number first", 0, x.who(0, 0));
                Due.is("then the greater one", 1, x.who(1, 0));
            }
        }
    }

    /** A call at a place that ends, and one at another place that begins just when one piper can be there. */
    private static void isWay(String word, int length, int place, int other, int begins) {
        for (int early = 0; early <= 1; early++) {
            for (int laterFirst = 0; laterFirst <= 1; laterFirst++) {
                TowerPipers x = Bands.of(1);
                Due.word(x, word);
                x.call(laterFirst, 0, length, place, 0, 0, NONE, 0);
                x.call(1 - laterFirst, begins - early, 1, other, 0, 0, NONE, 0);
                int due = early == 0 ? 3 : laterFirst == 1 ? 2 : 1;
                Due.is(word + ", " + place + " to " + other + " at " + (begins - early), due, x.played());
                Due.is("to look back at parts", early == 0 ? 2 : 1, x.look(0, 3));
            }
        }
    }

    private static void waysBetween() {
        isWay("w1", 4, 0, 0, 4);
        isWay("w1", 4, 7, 2, 9);
        isWay("w1", 4, 2, 7, 9);
        isWay("w1", 24, 9, 0, 33);
        isWay("w0", 4, 0, 9, 4);
        isWay("w20", 4, 4, 4, 4);
        isWay("w20", 4, 4, 5, 24);
        isWay("w20", 4, 4, 3, 24);
        isWay("w20", 4, 0, 4, 84);
        isWay("w10", 1, 0, 9, 91);
        isWay("w7", 24, 9, 0, 87);
        isWay("f0", 2, 3, 6, 5);
        // More quarters than a day has: nobody gets there.
        TowerPipers x = Bands.of(1);
        Due.word(x, "w20");
        x.call(0, 0, 1, 0, 0, 0, NONE, 0);
        x.call(0, 95, 1, 9, 0, 0, NONE, 0);
        x.call(0, 95, 1, 5, 0, 0, NONE, 0);
        x.call(0, 94, 1, 4, 0, 0, NONE, 0);
        Due.is("too far for a day", 0b1001, x.played());
        // The end is that of the earlier one, and the way is from it alone.
        TowerPipers y = Bands.of(1);
        y.call(0, 0, 1, 9, 0, 0, NONE, 0);
        y.call(0, 5, 1, 5, 0, 0, NONE, 0);
        y.call(0, 10, 1, 9, 0, 0, NONE, 0);
        Due.is("there and back", 7, y.played());
    }

    private static void piecesInEachQuarter() {
        for (int pieces = 0; pieces <= 3; pieces++) {
            TowerPipers x = Bands.of(ALL, ALL, ALL, ALL, ALL, ALL);
            x.pieces(2, pieces);
            for (int c = 0; c < 4; c++) {
                // All four have quarter 10 in common and no other one.
                Bands.simple(x, 1, 10 - c, 1 + c, 2);
            }
            Bands.simple(x, 1, 11, 1, 2);
            Bands.simple(x, 1, 10, 1, 3);
            int due = (1 << pieces) - 1 | (pieces > 0 ? 1 << 4 : 0) | 1 << 5;
            Due.is(pieces + " pieces", due, x.played());
        }
        // Two parts of one call are two parts.
        TowerPipers y = Bands.of(ALL, ALL, ALL);
        y.pieces(0, 1);
        y.pieces(4, 2);
        y.call(1, 0, 1, 0, 0, 0, 0, 0);
        y.call(1, 0, 1, 0, 0, 4, 4, 0);
        y.call(1, 0, 1, 0, 0, 4, NONE, 0);
        y.call(1, 0, 1, 0, 0, 0, NONE, 0);
        Due.is("one piece short", 0b1010, y.played());
        // The quarter that has too few is neither the first nor the last one of the call that comes.
        TowerPipers z = Bands.of(ALL, ALL, ALL, ALL);
        z.pieces(0, 2);
        Bands.simple(z, 0, 4, 2, 0);
        Bands.simple(z, 0, 5, 2, 0);
        Bands.simple(z, 1, 0, 20, 0);
        Due.is("within a long one", 0b011, z.played());
        z.off(1);
        z.call(0, 6, 2, 0, 0, 0, NONE, 0);
        Due.is("one behind another", 0b111, z.played());
        TowerPipers last = Bands.of(ALL, ALL);
        last.pieces(0, 1);
        Bands.simple(last, 0, 95, 1, 0);
        Bands.simple(last, 1, 94, 2, 0);
        Bands.simple(last, 2, 94, 1, 0);
        Due.is("the last quarter", 0b101, last.played());
    }

    private static void byOrdersAndNumbers() {
        int[][] orders = {{0, 0, 0, 0, 0, 0}, {3, 3, 3, 3, 3, 3}, {3, 2, 1, 0, 1, 2}, {3, 2, 1, 1, 2, 3},
            {3, 3, 3, 3, 3, 2}, {1, 0, 0, 0, 0, 0}, {2, 3, 2, 1, 2, 1}};
        int[] first = {0, 0, 3, 2, 5, 1, 3};
        for (int k = 0; k < orders.length; k++) {
            TowerPipers x = Bands.of(1);
            for (int c = 0; c < 6; c++) {
                Bands.simple(x, orders[k][c], 10, 4, 0);
            }
            Due.is("the first of row " + k, 1 << first[k], x.played());
        }
        // A number that is free again comes ahead of the greater ones that were there before.
        TowerPipers y = Bands.of(1);
        Bands.simple(y, 1, 0, 4, 0);
        Bands.simple(y, 1, 0, 4, 0);
        y.off(0);
        Due.is("the greater one alone", 0b10, y.played());
        Bands.simple(y, 1, 3, 4, 0);
        Due.is("the number counts, not when it came", 0b01, y.played());
    }

    private static void withThoseThatArePlayed() {
        TowerPipers x = Bands.of(1);
        Bands.simple(x, 0, 0, 4, 0);
        Bands.simple(x, 1, 3, 4, 0);
        Bands.simple(x, 2, 6, 4, 0);
        Due.is("what is not played is in nobody's way", 0b101, x.played());
        x.off(0);
        Due.is("now the second is, and is in the third one's", 0b010, x.played());
        // Who is the lowest for one call is given to another that can have no other one.
        TowerPipers y = Bands.of(3, 1);
        Bands.simple(y, 0, 0, 4, 0);
        Due.is("the lower one", 0, y.who(0, 0));
        Bands.simple(y, 3, 0, 4, 1);
        Due.is("both", 0b11, y.played());
        Due.is("the other one", 1, y.who(0, 0));
        // Who plays both instruments is wanted for the second one, so who plays less has the first.
        TowerPipers v = Bands.of(0b11, 0b01, 0b10);
        Bands.simple(v, 0, 0, 4, 0);
        Bands.simple(v, 1, 0, 4, 1);
        Bands.simple(v, 2, 0, 4, 1);
        Due.is("all three", 0b111, v.played());
        Due.is("who plays less", 1, v.who(0, 0));
        Due.is("who plays both", 0, v.who(1, 0));
        Due.is("who plays the second", 2, v.who(2, 0));
        // A call of two parts that wants one more than there are leaves those by then as they were.
        TowerPipers z = Bands.of(1, 1, 2);
        z.call(0, 0, 4, 0, 0, 0, NONE, 0);
        z.call(1, 0, 4, 0, 0, 1, 1, 0);
        z.call(2, 0, 4, 0, 0, 1, 0, 0);
        Due.is("without the second", 0b101, z.played());
        Due.is("who", 0, z.who(0, 0));
        Due.is("who", 2, z.who(2, 0));
        Due.is("who", 1, z.who(2, 1));
        leavesNothingBehind();
    }

    /** A call that can't be played is as if it were not there, for all that come behind it. */
    private static void leavesNothingBehind() {
        // Piper 0 could have had its first part; the second one's instrument is nobody's.
        TowerPipers x = Bands.of(0b010, 0b001);
        x.call(0, 0, 4, 0, 0, 1, NONE, 0);
        x.call(1, 2, 4, 0, 0, 1, 4, 0);
        x.call(2, 8, 4, 0, 0, 0, NONE, 0);
        Due.is("without the second", 0b101, x.played());
        Due.is("not who could have had that part", 1, x.who(2, 0));
        // It would have been at the first one's time; the third one is not.
        TowerPipers y = Bands.of(0b011, 0b011, 0b001);
        y.call(0, 0, 4, 0, 0, 0, NONE, 0);
        y.call(1, 2, 4, 0, 0, 0, 4, 0);
        y.call(2, 10, 4, 0, 0, 0, 1, 0);
        Due.is("without the second", 0b101, y.played());
        Due.is("who of the first", 0, y.who(0, 0));
        Due.is("the same one again", 0, y.who(2, 0));
        Due.is("the next one", 1, y.who(2, 1));
    }

    private static void leastRow() {
        // Three ways in all; the least row begins with the lowest piper, whatever follows.
        TowerPipers x = Bands.of(0b11, 0b01, 0b01, 0b10);
        x.call(1, 0, 1, 0, 0, 0, 1, 0);
        Due.is("first", 0, x.who(0, 0));
        Due.is("second", 3, x.who(0, 1));
        x.ill(3, true);
        Due.is("first gives way", 1, x.who(0, 0));
        Due.is("second", 0, x.who(0, 1));
        x.ill(1, true);
        Due.is("first gives way", 2, x.who(0, 0));
        x.ill(2, true);
        Due.is("no way is left", 0, x.played());
        // One and the same piper again where there is time, also for twelve parts.
        TowerPipers y = Bands.of(ALL, ALL, ALL, ALL, ALL, ALL);
        for (int c = 0; c < 6; c++) {
            y.call(c % 4, 5 * c, 5, 0, 0, c % 5, (c + 1) % 5, 0);
        }
        Due.is("all", 63, y.played());
        for (int c = 0; c < 6; c++) {
            Due.is("first", 0, y.who(c, 0));
            Due.is("second", 1, y.who(c, 1));
        }
        // Both the lowest and the next one can have the first part: the lowest has it.
        TowerPipers v = Bands.of(0b011, 0b101, 0b001, 0b010, 0b100);
        for (int i = 0; i < 3; i++) {
            Bands.simple(v, i, 0, 4, i);
        }
        Due.is("the lowest", 0, v.who(0, 0));
        Due.is("who is left for the second", 3, v.who(1, 0));
        Due.is("the lowest for the third", 1, v.who(2, 0));
        // The last of six alone can have the first part, so is not free for the third one.
        TowerPipers last = Bands.of(0b0110, 0b0010, 0b1000, 0b1000, 0b1000, 0b0101);
        for (int i = 0; i < 3; i++) {
            Bands.simple(last, i, 0, 4, i);
        }
        Due.is("the last of six", 5, last.who(0, 0));
        Due.is("the second gives way", 1, last.who(1, 0));
        Due.is("to the third", 0, last.who(2, 0));
        // Twelve parts, each call overlapping the next one: two and two take turns.
        TowerPipers chain = Bands.of(ALL, ALL, ALL, ALL, ALL, ALL);
        for (int c = 0; c < 6; c++) {
            chain.call(1, 3 * c, 4, 0, 0, c % 5, (c + 1) % 5, 0);
        }
        Due.is("all of the chain", 63, chain.played());
        for (int c = 0; c < 6; c++) {
            Due.is("first of the chain", c % 2 * 2, chain.who(c, 0));
            Due.is("second of the chain", c % 2 * 2 + 1, chain.who(c, 1));
        }
        // Three calls at once take all six.
        TowerPipers z = Bands.of(ALL, ALL, ALL, ALL, ALL, ALL);
        for (int c = 0; c < 4; c++) {
            z.call(0, 0, 1, 0, 0, c, 4 - c, 0);
        }
        Due.is("six for six parts", 0b0111, z.played());
        for (int c = 0; c < 3; c++) {
            Due.is("first", 2 * c, z.who(c, 0));
            Due.is("second", 2 * c + 1, z.who(c, 1));
        }
    }

    private static void orderOfTheRow() {
        // By orders, not by numbers nor by quarters.
        TowerPipers x = Bands.of(1, 1, 1);
        Bands.simple(x, 3, 0, 9, 0);
        Bands.simple(x, 1, 2, 9, 0);
        Bands.simple(x, 2, 1, 9, 0);
        Due.is("order 1", 0, x.who(1, 0));
        Due.is("order 2", 1, x.who(2, 0));
        Due.is("order 3", 2, x.who(0, 0));
        // Of like orders by numbers.
        TowerPipers y = Bands.of(1, 1);
        Bands.simple(y, 2, 5, 9, 0);
        Bands.simple(y, 2, 0, 9, 0);
        Due.is("number 0", 0, y.who(0, 0));
        Due.is("number 1", 1, y.who(1, 0));
        // The first part ahead of the second, whichever instrument is the lower one.
        TowerPipers z = Bands.of(0b11, 0b11);
        z.call(1, 0, 1, 0, 0, 1, 0, 0);
        Due.is("first part", 0, z.who(0, 0));
        Due.is("second part", 1, z.who(0, 1));
        // The second part of one call ahead of the first part of the next one.
        TowerPipers v = Bands.of(0b001, 0b110, 0b110);
        v.call(1, 0, 1, 0, 0, 0, 1, 0);
        v.call(2, 0, 1, 0, 0, 2, NONE, 0);
        Due.is("second part", 1, v.who(0, 1));
        Due.is("next call", 2, v.who(1, 0));
        v.off(0);
        v.call(3, 0, 1, 0, 0, 0, 1, 0);
        Due.is("now ahead", 1, v.who(1, 0));
        Due.is("now behind", 2, v.who(0, 1));
    }

    private static void twoNone() {
        TowerPipers x = Bands.of(ALL, ALL);
        Due.is("a call", 0, x.call(1, 0, 1, 0, 0, 4, NONE, 1000));
        Due.is("one instrument", 4, x.about(0, 5));
        Due.is("no second one", NONE, x.about(0, 6));
        Due.is("one piper", 0, x.who(0, 0));
        Due.is("no second one", NONE, x.who(0, 1));
        Due.is("one part", 1, x.look(0, 3));
        Due.is("none", 0, x.look(1, 3));
        Due.is("all to one", 900, x.share(0, 0));
        Due.is("two of them", 1, x.call(1, 1, 1, 0, 0, 4, 4, 1000));
        Due.is("a second one", 1, x.who(1, 1));
        Due.is("two NONE is no way to have none at all", NONE, x.call(1, 0, 1, 0, 0, NONE, NONE, 0));
    }

    private static void lowestFreeNumber() {
        TowerPipers x = Bands.of(1);
        for (int c = 0; c < 6; c++) {
            Due.is("next", c, Bands.simple(x, 1, c, 1, 0));
        }
        x.off(5);
        x.off(0);
        x.off(3);
        Due.is("lowest", 0, Bands.simple(x, 1, 50, 1, 0));
        Due.is("next", 3, Bands.simple(x, 1, 51, 1, 0));
        Due.is("next", 5, Bands.simple(x, 1, 52, 1, 0));
        Due.is("its own facts", 51, x.about(3, 1));
        x.off(2);
        x.day();
        Due.is("all are free on a new day", 0, Bands.simple(x, 1, 0, 1, 0));
        Due.is("all are free on a new day", 1, Bands.simple(x, 1, 1, 1, 0));
    }

    private static void sixAreThere() {
        TowerPipers x = Bands.of(1);
        for (int c = 0; c < 6; c++) {
            Bands.simple(x, 1, c, 1, 0);
        }
        Due.is("a seventh", NONE, Bands.simple(x, 0, 50, 1, 0));
        Due.is("none is gone for it", 63, x.played());
        for (int c = 0; c < 6; c++) {
            Due.is("none is changed", c, x.about(c, 1));
        }
        x.off(5);
        Due.is("none such", NONE, Bands.simple(x, 4, 50, 1, 0));
        Due.is("it takes no room", 5, Bands.simple(x, 0, 50, 1, 0));
        Due.is("again a seventh", NONE, Bands.simple(x, 0, 60, 1, 0));
    }

    private static void noneSuchToCallOff() {
        TowerPipers x = Bands.of(1);
        for (int c = 0; c < 6; c++) {
            Due.no("none yet " + c, x.off(c));
        }
        for (int c = 0; c < 6; c++) {
            Bands.simple(x, 1, c, 1, 0);
        }
        for (int c : NO_NUMBERS) {
            Due.no("no number " + c, x.off(c));
        }
        Due.is("all are there", 63, x.played());
        Due.yes("the lowest", x.off(0));
        Due.no("is off", x.off(0));
        Due.yes("the greatest", x.off(5));
        Due.no("is off", x.off(5));
        Due.is("four are there", 4, x.count(3));
        x.day();
        Due.no("gone with the day", x.off(1));
    }

    private static void playedBits() {
        TowerPipers x = Bands.of(1);
        Due.is("none", 0, x.played());
        for (int c = 0; c < 6; c++) {
            Bands.simple(x, 3 - c / 2, 95 - 10 * c, 1, 0);
            Due.is("one more", (2 << c) - 1, x.played());
        }
        Due.is("asked again", 63, x.played());
        x.off(0);
        Due.is("not the lowest", 62, x.played());
        x.off(5);
        Due.is("not the greatest", 30, x.played());
        x.day();
        Due.is("none on a new day", 0, x.played());
    }

    private static void partsOfWho() {
        TowerPipers x = Bands.of(1, 2, 2, 2, 2, 2);
        for (int c = 0; c < 6; c++) {
            x.call(1, c < 3 ? 0 : c, 1, 0, 0, c == 0 || c >= 3 ? 0 : 1, c >= 3 ? 1 : NONE, 0);
        }
        Due.is("all", 63, x.played());
        Due.is("piper 0", 0, x.who(0, 0));
        Due.is("piper 1", 1, x.who(1, 0));
        Due.is("piper 2", 2, x.who(2, 0));
        for (int c = 0; c < 6; c++) {
            Due.is("second part", c < 3 ? NONE : 1, x.who(c, 1));
            for (int k : new int[] {Integer.MIN_VALUE, -2, -1, 2, 3, 5, 6, 32, 33, Integer.MAX_VALUE}) {
                Due.is("no part " + k, NONE, x.who(c, k));
            }
        }
        for (int p = 1; p < 5; p++) {
            x.ill(p, true);
        }
        Due.is("piper 5", 5, x.who(5, 1));
    }

    private static void nobodyPlays() {
        TowerPipers x = Bands.of(1);
        for (int c = 0; c < 6; c++) {
            Due.is("none there", NONE, x.who(c, 0));
        }
        Bands.simple(x, 0, 0, 4, 0);
        x.call(1, 2, 4, 0, 0, 0, 0, 0);
        Due.is("played", 0, x.who(0, 0));
        Due.is("not played", NONE, x.who(1, 0));
        Due.is("not played", NONE, x.who(1, 1));
        for (int c : NO_NUMBERS) {
            Due.is("no call " + c, NONE, x.who(c, 0));
            Due.is("no call " + c, NONE, x.who(c, 1));
        }
        x.off(0);
        Due.is("called off", NONE, x.who(0, 0));
        Bands.simple(x, 0, 0, 4, 0);
        x.ill(0, true);
        Due.is("nobody is well", NONE, x.who(0, 0));
        x.ill(0, false);
        Due.is("well again", 0, x.who(0, 0));
        x.day();
        Due.is("gone with the day", NONE, x.who(0, 0));
    }

    private static void about() {
        int[][] calls = {{0, 0, 1, 0, 0, 0, NONE, 0}, {3, 72, 24, 9, 5, 4, 4, 9999}, {1, 95, 1, 8, 4, 3, 0, 1},
            {2, 1, 2, 3, 4, 1, 2, 5}, {0, 40, 24, 1, 2, 2, NONE, 77}, {3, 5, 5, 5, 5, 0, 4, 5}};
        TowerPipers x = new TowerPipers();
        for (int c = 0; c < 6; c++) {
            Due.is("none there yet", NONE, x.about(c, 0));
            Bands.call(x, calls[c]);
        }
        for (int c = 0; c < 6; c++) {
            for (int what = 0; what < 8; what++) {
                Due.is("about " + c + " " + what, calls[c][what], x.about(c, what));
            }
            for (int what : new int[] {Integer.MIN_VALUE, -2, -1, 8, 9, 32, Integer.MAX_VALUE}) {
                Due.is("no such thing " + what, NONE, x.about(c, what));
            }
        }
        for (int c : NO_NUMBERS) {
            for (int what = 0; what < 8; what++) {
                Due.is("no call " + c, NONE, x.about(c, what));
            }
        }
        x.off(1);
        for (int what = 0; what < 8; what++) {
            Due.is("called off", NONE, x.about(1, what));
        }
        x.day();
        Due.is("gone with the day", NONE, x.about(0, 0));
    }
}
