/** The boundaries of tunes, shares, days and the fund: each sentence of the document by a test of its own. */
public final class DayBoundariesTest {
    private static final int NONE = TowerPipers.NONE;
    private static final int[] NO_NUMBERS = {Integer.MIN_VALUE, -32, -2, NONE, 6, 7, 32, 33, 64, Integer.MAX_VALUE};

    private DayBoundariesTest() {
    }

    public static void main(String[] args) {
        Due.sentence("A DAY (0 at first, to 9999)", DayBoundariesTest::daysToTheLast);
        Due.sentence("The MONTH is DAY / 30 modulo 12.", DayBoundariesTest::months);
        Due.sentence("OCCASIONS (bits) and MONTHS (bits) that they fit", DayBoundariesTest::bitsThatFit);
        Due.sentence("Each CALL that is PLAYED, in that order, has the TUNE that fits and was heard longest ago",
            DayBoundariesTest::heardLongestAgo);
        Due.sentence("never heard ahead of all", DayBoundariesTest::neverHeardAheadOfAll);
        Due.sentence("heard today in the order in which they were", DayBoundariesTest::heardToday);
        Due.sentence("of like ones the lowest", DayBoundariesTest::likeTunes);
        Due.sentence("none, if none fits.", DayBoundariesTest::noneFits);
        Due.sentence("The TUNE of CALL c; NONE: it is not PLAYED, none fits, there is none such.",
            DayBoundariesTest::noTuneHeard);
        Due.sentence("f hundredths, rounded down, are the FUND's", DayBoundariesTest::shareOfTheFund);
        Due.sentence("the rest is parted to WHO play it by their RANKS (each what is due, rounded down",
            DayBoundariesTest::partedByRanks);
        Due.sentence("what is left over to the one with the greater rest", DayBoundariesTest::leftOver);
        Due.sentence("of like ones to the lower one", DayBoundariesTest::likeRests);
        Due.sentence("The SHARE of PIPER p (NONE: of the FUND) of the FEE of CALL c; 0: none",
            DayBoundariesTest::shareOfNone);
        Due.sentence("NONE: it is not PLAYED, no such ones.", DayBoundariesTest::noSuchShares);
        Due.sentence("SHARES come to PIPERS' WAGES and the FUND", DayBoundariesTest::sharesCome);
        Due.sentence("for each CALL of ORDER 0 that is not PLAYED each PIPER that is well is fined g",
            DayBoundariesTest::fines);
        Due.sentence("(of WAGES, also below 0; it comes to the FUND)", DayBoundariesTest::finesBelowZero);
        Due.sentence("TUNES that CALLS had are heard", DayBoundariesTest::tunesAreHeard);
        Due.sentence("CALLS are gone", DayBoundariesTest::callsAreGone);
        Due.sentence("it is the next DAY", DayBoundariesTest::nextDay);
        Due.sentence("If that modulo 360 is 0, each OLD one", DayBoundariesTest::onceAYear);
        Due.sentence("by numbers, has p of the FUND, as far as there is", DayBoundariesTest::asFarAsThereIs);
        Due.sentence("(it comes to WAGES)", DayBoundariesTest::pensionComesToWages);
        Due.sentence("A DAY goes by: which it is; NONE: it would be above 9999.", DayBoundariesTest::noDayAbove);
        Due.sentence("`int lasts()`: THE FUND LASTS so many years.", DayBoundariesTest::yearsGoBy);
        Due.sentence("THE FUND LASTS so many years as it can pay p whole", DayBoundariesTest::wholeYears);
        Due.sentence("to each that is OLD now, if nothing comes", DayBoundariesTest::oldNow);
        Due.sentence("9999 at most", DayBoundariesTest::yearsAtMost);
        Due.sentence("also if nobody is, or p is 0", DayBoundariesTest::nobodyOrNothing);
        Due.end();
    }

    /** A band of one piper and a tune for each number of occasions. */
    private static TowerPipers bandWithTunes(int... occasions) {
        TowerPipers x = Bands.of(1);
        for (int t = 0; t < occasions.length; t++) {
            Due.is("tune", t, x.tune(occasions[t], 4095));
        }
        return x;
    }

    // Day 9999 is beyond an object's 512 calls, where answers are free by the document; here they go on
    // being right.
    private static void daysToTheLast() {
        TowerPipers x = Bands.of(1);
        Due.is("at first", 0, x.count(0));
        for (int d = 1; d <= 9999; d++) {
            Due.is("the next day", d, x.day());
        }
        Due.is("the last day", 9999, x.count(0));
        Due.is("its month", 9, x.count(1));
    }

    private static void months() {
        TowerPipers x = new TowerPipers();
        for (int d = 0; d <= 391; d++) {
            if (d % 30 == 0 || d % 30 == 29) {
                Due.is("day " + d, d < 360 ? d / 30 : (d - 360) / 30, x.count(1));
            }
            x.day();
        }
    }

    private static void bitsThatFit() {
        for (int o = 0; o <= 5; o++) {
            TowerPipers x = bandWithTunes(63 & ~(1 << o), 1 << o);
            for (int asked = 0; asked <= 5; asked++) {
                Bands.occasion(x, 1, asked, asked);
                Due.is("occasion " + asked, asked == o ? 1 : 0, x.heard(asked));
            }
        }
        for (int m = 0; m <= 11; m++) {
            TowerPipers x = Bands.of(1);
            x.tune(63, 4095 & ~(1 << m));
            x.tune(63, 1 << m);
            Bands.days(x, m * 30 + 29);
            Bands.occasion(x, 1, 0, 0);
            Due.is("the last day of month " + m, 1, x.heard(0));
            x.day();
            Bands.occasion(x, 1, 0, 0);
            Due.is("the first day of the month behind it", 0, x.heard(0));
        }
        TowerPipers round = Bands.of(1);
        round.tune(63, 1 << 11);
        round.tune(63, 1);
        Bands.days(round, 360);
        Bands.occasion(round, 1, 0, 0);
        Due.is("month 0 again", 1, round.heard(0));
    }

    private static void heardLongestAgo() {
        TowerPipers x = bandWithTunes(0b001, 0b011, 0b101);
        // Day 0: tune 2, day 1: tune 1, day 2: tune 0; then all three for occasion 0.
        int[] occasions = {2, 1, 0};
        int[] tunes = {2, 1, 0};
        for (int d = 0; d < 3; d++) {
            Bands.occasion(x, 1, 0, occasions[d]);
            Due.is("day " + d, tunes[d], x.heard(0));
            x.day();
        }
        for (int c = 0; c < 3; c++) {
            Bands.occasion(x, 1, c, 0);
        }
        Due.is("of day 0", 2, x.heard(0));
        Due.is("of day 1", 1, x.heard(1));
        Due.is("of day 2", 0, x.heard(2));
        x.day();
        // Those three are of one earlier day now, and keep their order.
        Bands.occasion(x, 1, 0, 0);
        Due.is("the first of that day", 2, x.heard(0));
        x.day();
        Bands.occasion(x, 1, 0, 1);
        Due.is("alone fits, though heard later", 1, x.heard(0));
        Bands.occasion(x, 1, 1, 0);
        Due.is("the last of that day", 0, x.heard(1));
        Bands.occasion(x, 1, 2, 0);
        Due.is("of the day before", 2, x.heard(2));
    }

    private static void neverHeardAheadOfAll() {
        TowerPipers x = bandWithTunes(0b11, 0b01, 0b01);
        Bands.occasion(x, 0, 0, 1);
        x.day();
        Bands.days(x, 2);
        for (int c = 0; c < 4; c++) {
            Bands.occasion(x, 1, c, 0);
        }
        Due.is("never heard", 1, x.heard(0));
        Due.is("never heard", 2, x.heard(1));
        Due.is("heard on day 0", 0, x.heard(2));
        Due.is("heard today", 1, x.heard(3));
        x.tune(1, 4095);
        Due.is("still the lowest that was never heard", 1, x.heard(0));
        Due.is("a new one ahead of the one of day 0", 3, x.heard(2));
        Due.is("now that one", 0, x.heard(3));
    }

    private static void heardToday() {
        TowerPipers x = bandWithTunes(0b0011, 0b0101, 0b1001);
        // Gone through by orders: occasions 3, 1, 2 have tunes 2, 0, 1; then three of occasion 0.
        Bands.occasion(x, 3, 0, 0);
        Bands.occasion(x, 3, 1, 0);
        Bands.occasion(x, 3, 2, 0);
        Bands.occasion(x, 1, 3, 1);
        Bands.occasion(x, 2, 4, 2);
        Bands.occasion(x, 0, 5, 3);
        int[] due = {2, 0, 1, 0, 1, 2};
        for (int c = 0; c < 6; c++) {
            Due.is("call " + c, due[c], x.heard(c));
        }
        // One that was heard earlier is ahead of those that were heard today.
        TowerPipers y = bandWithTunes(0b01, 0b11);
        Bands.occasion(y, 1, 0, 1);
        y.day();
        Bands.occasion(y, 1, 0, 0);
        Bands.occasion(y, 1, 1, 0);
        Bands.occasion(y, 1, 2, 0);
        Due.is("never", 0, y.heard(0));
        Due.is("on day 0", 1, y.heard(1));
        Due.is("today", 0, y.heard(2));
        // A call that is not played has no tune, so it does not make one heard today.
        TowerPipers z = bandWithTunes(1, 1);
        Bands.occasion(z, 0, 0, 0);
        Bands.occasion(z, 0, 0, 0);
        Bands.occasion(z, 0, 1, 0);
        Due.is("played", 0b101, z.played());
        Due.is("the first", 0, z.heard(0));
        Due.is("none", NONE, z.heard(1));
        Due.is("the second", 1, z.heard(2));
    }

    private static void likeTunes() {
        TowerPipers x = bandWithTunes(0b10, 0b01, 0b01, 0b11);
        Bands.occasion(x, 1, 0, 0);
        Due.is("the lowest that fits", 1, x.heard(0));
        Bands.occasion(x, 0, 1, 1);
        Due.is("the lowest that fits", 0, x.heard(1));
        Bands.occasion(x, 0, 2, 1);
        Due.is("the next one", 3, x.heard(2));
        Due.is("still the lowest", 1, x.heard(0));
    }

    private static void noneFits() {
        TowerPipers x = Bands.of(1);
        Bands.occasion(x, 1, 0, 0);
        Due.is("no tunes", NONE, x.heard(0));
        x.tune(0, 0);
        Due.is("a tune for nothing", NONE, x.heard(0));
        x.tune(0, 4095);
        Due.is("no occasion", NONE, x.heard(0));
        x.tune(63, 0);
        Due.is("no month", NONE, x.heard(0));
        x.tune(0b111110, 4095);
        Due.is("another occasion", NONE, x.heard(0));
        x.tune(63, 0b111111111110);
        Due.is("another month", NONE, x.heard(0));
        Due.is("played without a tune", 1, x.played());
        x.tune(1, 1);
        Due.is("one that fits", 5, x.heard(0));
        x.off(0);
        Bands.occasion(x, 1, 0, 1);
        Bands.occasion(x, 1, 1, 0);
        x.day();
        Due.is("heard", 0, x.count(33));
        Due.is("heard", 0, x.count(35));
        Due.is("fits nothing", NONE, x.count(30));
    }

    private static void noTuneHeard() {
        TowerPipers x = bandWithTunes(0b11);
        for (int c = 0; c < 6; c++) {
            Due.is("none there", NONE, x.heard(c));
        }
        x.call(0, 0, 4, 0, 0, 0, NONE, 0);
        x.call(1, 2, 4, 0, 0, 0, NONE, 0);
        x.call(1, 9, 4, 0, 5, 0, NONE, 0);
        Due.is("a tune", 0, x.heard(0));
        Due.is("not played", NONE, x.heard(1));
        Due.is("none fits", NONE, x.heard(2));
        for (int c : NO_NUMBERS) {
            Due.is("no number " + c, NONE, x.heard(c));
        }
        x.off(0);
        Due.is("called off", NONE, x.heard(0));
        Due.is("played now", 0, x.heard(1));
        x.ill(0, true);
        Due.is("nobody is well", NONE, x.heard(1));
        x.ill(0, false);
        Due.is("well again", 0, x.heard(1));
        x.day();
        Due.is("gone with the day", NONE, x.heard(1));
    }

    private static void isShareOfFund(int hundredths, int fee, int due) {
        TowerPipers x = Bands.of(1);
        Due.is("word", 0, Due.word(x, "f" + hundredths));
        Bands.paid(x, 0, fee);
        Due.is(hundredths + " hundredths of " + fee, due, x.share(0, NONE));
        Due.is("the rest", fee - due, x.share(0, 0));
    }

    private static void shareOfTheFund() {
        int[][] rows = {{0, 9999, 0}, {100, 9999, 9999}, {100, 0, 0}, {10, 0, 0}, {10, 9, 0}, {10, 10, 1},
            {10, 19, 1}, {10, 20, 2}, {1, 99, 0}, {1, 100, 1}, {1, 9999, 99}, {99, 1, 0}, {99, 2, 1},
            {99, 9999, 9899}, {50, 1, 0}, {50, 3, 1}, {33, 3, 0}, {100, 1, 1}, {0, 1, 0}};
        for (int[] row : rows) {
            isShareOfFund(row[0], row[1], row[2]);
        }
        TowerPipers x = Bands.of(1);
        Bands.paid(x, 0, 9999);
        Due.is("ten at first", 999, x.share(0, NONE));
    }

    /** Two pipers of these ranks part a fee of which nothing is the fund's, whichever has the first part. */
    private static void isParted(int fee, int rank, int otherRank, int due, int otherDue) {
        TowerPipers x = new TowerPipers();
        Due.word(x, "f0");
        x.piper(rank, 0b01);
        x.piper(otherRank, 0b10);
        x.call(1, 0, 1, 0, 0, 0, 1, fee);
        x.call(1, 1, 1, 0, 0, 1, 0, fee);
        for (int c = 0; c < 2; c++) {
            String what = fee + " by " + rank + " and " + otherRank + ", call " + c;
            Due.is(what, due, x.share(c, 0));
            Due.is(what + ", the other one", otherDue, x.share(c, 1));
        }
    }

    private static void partedByRanks() {
        isParted(0, 1, 9, 0, 0);
        isParted(2, 1, 1, 1, 1);
        isParted(100, 1, 9, 10, 90);
        isParted(100, 9, 1, 90, 10);
        isParted(100, 3, 2, 60, 40);
        isParted(9999, 9, 9, 5000, 4999);
        isParted(9999, 1, 8, 1111, 8888);
        isParted(9999, 4, 7, 3636, 6363);
        // The fund's part is taken first: 90 of 100 are parted.
        TowerPipers x = new TowerPipers();
        x.piper(7, 0b01);
        x.piper(2, 0b10);
        x.call(1, 0, 1, 0, 0, 0, 1, 100);
        Due.is("the fund", 10, x.share(0, NONE));
        Due.is("seven ninths", 70, x.share(0, 0));
        Due.is("two ninths", 20, x.share(0, 1));
        // One alone has all, whatever the rank.
        for (int rank = 1; rank <= 9; rank++) {
            TowerPipers one = new TowerPipers();
            one.piper(rank, 1);
            Bands.paid(one, 0, 9999);
            Due.is("rank " + rank, 9000, one.share(0, 0));
        }
    }

    private static void leftOver() {
        // 100 by 1 and 2: 33 and a third, 66 and two thirds.
        isParted(100, 1, 2, 33, 67);
        isParted(100, 2, 1, 67, 33);
        // 101 by 1 and 2: 33 and two thirds, 67 and a third.
        isParted(101, 1, 2, 34, 67);
        isParted(101, 2, 1, 67, 34);
        isParted(1, 1, 9, 0, 1);
        isParted(1, 9, 1, 1, 0);
        isParted(1, 8, 9, 0, 1);
        isParted(9, 9, 1, 8, 1);
        isParted(9999, 8, 9, 4705, 5294);
        isParted(9999, 9, 8, 5294, 4705);
    }

    private static void likeRests() {
        isParted(1, 1, 1, 1, 0);
        isParted(101, 9, 9, 51, 50);
        // Like rests of ranks that are not alike: five and five tenths.
        isParted(5, 1, 9, 1, 4);
        isParted(5, 9, 1, 5, 0);
        isParted(2, 1, 3, 1, 1);
        isParted(2, 3, 1, 2, 0);
        isParted(4, 3, 5, 2, 2);
        isParted(4, 5, 3, 3, 1);
    }

    private static void shareOfNone() {
        TowerPipers x = Bands.of(1, 2, 1);
        x.call(1, 0, 1, 0, 0, 0, 1, 1000);
        Due.is("the fund's", 100, x.share(0, NONE));
        Due.is("first part", 450, x.share(0, 0));
        Due.is("second part", 450, x.share(0, 1));
        Due.is("no part", 0, x.share(0, 2));
        x.old(2);
        Due.is("no part of the old", 0, x.share(0, 2));
        x.call(1, 1, 1, 0, 0, 0, 1, 0);
        Due.is("nothing of no fee", 0, x.share(1, NONE));
        Due.is("nothing of no fee", 0, x.share(1, 0));
        x.call(1, 2, 1, 0, 0, 1, NONE, 9);
        Due.is("nothing of nine", 0, x.share(2, NONE));
        Due.is("no part of this one", 0, x.share(2, 0));
        Due.is("all of it", 9, x.share(2, 1));
    }

    private static void noSuchShares() {
        TowerPipers x = Bands.of(1, 1);
        for (int c = 0; c < 6; c++) {
            Due.is("none there", NONE, x.share(c, NONE));
            Due.is("none there", NONE, x.share(c, 0));
        }
        x.call(0, 0, 4, 0, 0, 0, 0, 1000);
        x.call(1, 2, 4, 0, 0, 0, NONE, 1000);
        Due.is("a share", 450, x.share(0, 0));
        for (int p = NONE; p < 2; p++) {
            Due.is("not played", NONE, x.share(1, p));
        }
        Due.is("the next number", NONE, x.share(0, 2));
        for (int p : NO_NUMBERS) {
            if (p != NONE) {
                Due.is("no piper " + p, NONE, x.share(0, p));
            }
        }
        for (int c : NO_NUMBERS) {
            Due.is("no call " + c, NONE, x.share(c, NONE));
            Due.is("no call " + c, NONE, x.share(c, 0));
        }
        x.off(0);
        Due.is("called off", NONE, x.share(0, 0));
        x.day();
        Due.is("gone with the day", NONE, x.share(1, 0));
    }

    private static void sharesCome() {
        TowerPipers x = new TowerPipers();
        x.piper(2, 0b01);
        x.piper(1, 0b10);
        x.piper(9, 0b11);
        x.ill(2, true);
        for (int c = 0; c < 6; c++) {
            x.call(c % 4, c, 1, 0, 0, 0, c == 5 ? NONE : 1, 1000);
        }
        Due.is("not before the day goes by", 0, x.wages(0));
        x.day();
        Due.is("five of two parts and one", 5 * 600 + 900, x.wages(0));
        Due.is("five of two parts", 5 * 300, x.wages(1));
        Due.is("no part", 0, x.wages(2));
        Due.is("the fund", 600, x.wages(NONE));
        x.day();
        Due.is("once", 3900, x.wages(0));
        Due.is("once", 600, x.wages(NONE));
        x.call(1, 95, 1, 0, 0, 0, NONE, 10);
        x.call(1, 95, 1, 0, 0, 0, NONE, 10);
        x.day();
        Due.is("one more that is played", 3909, x.wages(0));
        Due.is("one more that is played", 601, x.wages(NONE));
    }

    private static void fines() {
        TowerPipers x = Bands.of(1, 1, 1, 1, 1, 1);
        x.ill(1, true);
        x.old(3);
        // Six that nobody can play: two are the town's own.
        for (int c = 0; c < 6; c++) {
            Bands.simple(x, new int[] {0, 1, 2, 3, 1, 0}[c], c, 1, 4);
        }
        x.day();
        int[] due = {-100, 0, -100, 0, -100, -100};
        for (int p = 0; p < 6; p++) {
            Due.is("piper " + p, due[p], x.wages(p));
        }
        Due.is("the fund", 400, x.wages(NONE));
        // Played, called off, or of another day: no fine.
        Bands.simple(x, 0, 0, 1, 0);
        Bands.simple(x, 0, 5, 1, 4);
        x.off(1);
        x.day();
        Due.is("a share and no fine", -100 + 90, x.wages(0));
        Due.is("no fine", -100, x.wages(5));
        // With nobody well, nobody is fined.
        TowerPipers y = Bands.of(1, 1);
        y.ill(0, true);
        y.old(1);
        Bands.simple(y, 0, 0, 1, 0);
        y.day();
        Due.is("the ill", 0, y.wages(0));
        Due.is("the old", 0, y.wages(1));
        Due.is("the fund", 0, y.wages(NONE));
        // One that could be played is missed for one that goes ahead.
        TowerPipers z = Bands.of(1);
        Bands.simple(z, 0, 0, 4, 0);
        Bands.simple(z, 0, 3, 4, 0);
        z.day();
        Due.is("a share and a fine", 90 - 50, z.wages(0));
        Due.is("a share and a fine", 10 + 50, z.wages(NONE));
    }

    private static void finesBelowZero() {
        TowerPipers x = Bands.of(1, 1);
        Bands.paid(x, 0, 60);
        x.day();
        Bands.simple(x, 0, 0, 1, 4);
        x.day();
        Due.is("above 0", 54 - 50, x.wages(0));
        Due.is("from 0", -50, x.wages(1));
        Due.is("the fund", 6 + 100, x.wages(NONE));
        Bands.simple(x, 0, 0, 1, 4);
        x.day();
        Due.is("through 0", -46, x.wages(0));
        Due.is("below 0", -100, x.wages(1));
        Due.is("the fund has it whole", 206, x.wages(NONE));
        Due.word(x, "g9999");
        for (int c = 0; c < 6; c++) {
            Bands.simple(x, 0, 0, 1, 4);
        }
        x.day();
        Due.is("the highest fine, six times", -46 - 6 * 9999, x.wages(0));
        Due.is("the fund", 206 + 12 * 9999, x.wages(NONE));
        Due.word(x, "g0");
        Bands.simple(x, 0, 0, 1, 4);
        x.day();
        Due.is("the lowest fine", -100 - 6 * 9999, x.wages(1));
        Due.is("the fund", 206 + 12 * 9999, x.wages(NONE));
    }

    private static void tunesAreHeard() {
        TowerPipers x = bandWithTunes(0b01, 0b10, 0b10);
        Bands.occasion(x, 1, 0, 0);
        Bands.occasion(x, 1, 0, 1);
        Bands.occasion(x, 1, 9, 1);
        x.off(2);
        Due.is("the second is not played", 1, x.played());
        x.day();
        Due.is("that of the one that was played", 0, x.count(30));
        Due.is("not that of one that was not", NONE, x.count(31));
        Due.is("nor another one", NONE, x.count(32));
        x.day();
        Due.is("not without a call", 0, x.count(30));
        Bands.occasion(x, 1, 0, 1);
        x.day();
        Due.is("on day 2", 2, x.count(31));
        Due.is("day 0 stays", 0, x.count(30));
    }

    private static void callsAreGone() {
        TowerPipers x = Bands.of(1);
        for (int c = 0; c < 6; c++) {
            Bands.simple(x, c % 4, c % 2, 1, 0);
        }
        x.day();
        Due.is("none is there", 0, x.count(3));
        for (int c = 0; c < 6; c++) {
            Due.is("call " + c, NONE, x.about(c, 0));
            Due.no("call " + c, x.off(c));
        }
        Due.is("none is played", 0, x.played());
        int wages = x.wages(0);
        x.day();
        Due.is("no fine for those of the day before", wages, x.wages(0));
        Due.is("room for six", 0, Bands.simple(x, 1, 0, 1, 0));
    }

    private static void nextDay() {
        TowerPipers x = new TowerPipers();
        for (int d = 0; d < 5; d++) {
            Due.is("day", d, x.count(0));
            Due.is("the next one", d + 1, x.day());
        }
    }

    /** A fund of this many pence, at the end of a day, from a piper who has then gone to be old. */
    private static TowerPipers bandWithFund(int pence, int old) {
        TowerPipers x = Bands.of(1, 1, 1, 1, 1, 1);
        Due.word(x, "f100");
        Bands.paid(x, 0, Math.min(pence, 9999));
        Bands.paid(x, 1, Math.max(0, pence - 9999));
        x.day();
        Due.is("the fund", pence, x.wages(NONE));
        for (int p = 0; p < old; p++) {
            x.old(p);
        }
        return x;
    }

    private static void onceAYear() {
        TowerPipers x = bandWithFund(1000, 2);
        x.ill(3, true);
        Bands.days(x, 358);
        Due.is("day", 359, x.count(0));
        Due.is("not on day 359", 0, x.wages(0));
        Due.is("day", 360, x.day());
        Due.is("on day 360", 100, x.wages(0));
        Due.is("on day 360", 100, x.wages(1));
        Due.is("the well have none", 0, x.wages(2));
        Due.is("the ill have none", 0, x.wages(3));
        Due.is("the fund", 800, x.wages(NONE));
        Due.is("day", 361, x.day());
        Due.is("not on day 361", 100, x.wages(0));
        Due.is("the fund", 800, x.wages(NONE));
        // Old on the eve is old in time, and what that day brings is there to be paid.
        TowerPipers y = Bands.of(1, 1);
        Bands.days(y, 359);
        Bands.paid(y, 0, 700);
        Bands.simple(y, 0, 5, 1, 4);
        y.old(1);
        y.day();
        Due.is("of a share and a fine", 100, y.wages(1));
        Due.is("the fund", 70 + 50 - 100, y.wages(NONE));
        Due.is("the other one", 630 - 50, y.wages(0));
    }

    // The second year is beyond an object's 512 calls, where answers are free by the document.
    private static void asFarAsThereIs() {
        int[][] rows = {{0, 0, 0, 0}, {1, 1, 0, 0}, {99, 99, 0, 0}, {100, 100, 0, 0}, {101, 100, 1, 0},
            {250, 100, 100, 50}, {299, 100, 100, 99}, {300, 100, 100, 100}, {301, 100, 100, 100}};
        for (int[] row : rows) {
            TowerPipers x = bandWithFund(row[0], 3);
            Bands.days(x, 359);
            for (int p = 0; p < 3; p++) {
                Due.is(row[0] + " for piper " + p, row[1 + p], x.wages(p));
            }
            Due.is("the fund", Math.max(0, row[0] - 300), x.wages(NONE));
        }
        TowerPipers most = bandWithFund(10000, 2);
        Due.word(most, "p9999");
        Bands.days(most, 359);
        Due.is("the most", 9999, most.wages(0));
        Due.is("the last penny", 1, most.wages(1));
        TowerPipers none = bandWithFund(10000, 2);
        Due.word(none, "p0");
        Bands.days(none, 359);
        Due.is("p is 0", 0, none.wages(0));
        Due.is("the fund", 10000, none.wages(NONE));
        TowerPipers all = bandWithFund(550, 6);
        Bands.days(all, 359);
        Due.is("the fifth of six", 100, all.wages(4));
        Due.is("the last of six", 50, all.wages(5));
        Bands.days(all, 360);
        Due.is("nothing in the second year", 50, all.wages(5));
    }

    private static void pensionComesToWages() {
        TowerPipers x = Bands.of(1, 1);
        Bands.paid(x, 0, 1000);
        Bands.simple(x, 0, 0, 1, 4);
        x.day();
        x.old(0);
        x.old(1);
        Due.is("the fund", 100 + 100, x.wages(NONE));
        Bands.days(x, 359);
        Due.is("on top of what is there", 900 - 50 + 100, x.wages(0));
        Due.is("on top of what is below 0", -50 + 100, x.wages(1));
        Due.is("the fund", 0, x.wages(NONE));
    }

    // Day 9999 is beyond an object's 512 calls, where answers are free by the document.
    private static void noDayAbove() {
        TowerPipers x = Bands.of(1);
        x.tune(63, 4095);
        Bands.days(x, 9998);
        Due.is("the last one", 9999, x.day());
        Bands.paid(x, 0, 1000);
        Bands.simple(x, 0, 0, 1, 4);
        for (int k = 0; k < 2; k++) {
            Due.is("above it", NONE, x.day());
            Due.is("the day stays", 9999, x.count(0));
            Due.is("calls stay", 2, x.count(3));
            Due.is("no share and no fine", 0, x.wages(0));
            Due.is("no share and no fine", 0, x.wages(NONE));
            Due.is("no tune is heard", NONE, x.count(30));
            Due.is("calls are still played", 1, x.played());
        }
    }

    private static void yearsGoBy() {
        TowerPipers x = bandWithFund(500, 2);
        Due.is("two years and a half", 2, x.lasts());
        Bands.days(x, 359);
        Due.is("a year later", 1, x.lasts());
        Due.is("one of them has had", 100, x.wages(0));
        Due.is("and so has the other one", 100, x.wages(1));
        Due.is("the fund", 300, x.wages(NONE));
    }

    private static void wholeYears() {
        int[][] rows = {{0, 1, 0}, {99, 1, 0}, {100, 1, 1}, {101, 1, 1}, {199, 1, 1}, {200, 1, 2}, {199, 2, 0},
            {200, 2, 1}, {399, 2, 1}, {400, 2, 2}, {599, 6, 0}, {600, 6, 1}, {10000, 1, 100}, {10000, 3, 33}};
        for (int[] row : rows) {
            TowerPipers x = bandWithFund(row[0], row[1]);
            Due.is(row[0] + " for " + row[1], row[2], x.lasts());
            Due.is("the fund is not touched", row[0], x.wages(NONE));
        }
        TowerPipers most = bandWithFund(19998, 2);
        Due.word(most, "p9999");
        Due.is("the most for two", 1, most.lasts());
        most.old(2);
        Due.is("the most for three", 0, most.lasts());
    }

    private static void oldNow() {
        TowerPipers x = bandWithFund(1200, 0);
        x.ill(5, true);
        for (int p = 0; p < 6; p++) {
            x.old(p);
            Due.is("for " + (p + 1), 12 / (p + 1), x.lasts());
        }
        // What is to come today is not there yet.
        TowerPipers y = bandWithFund(100, 1);
        Bands.paid(y, 0, 5000);
        Due.is("before the day goes by", 1, y.lasts());
        y.day();
        Due.is("then", 51, y.lasts());
    }

    private static void yearsAtMost() {
        int[] funds = {9998, 9999, 10000, 19998};
        int[] due = {9998, 9999, 9999, 9999};
        for (int k = 0; k < 4; k++) {
            TowerPipers x = bandWithFund(funds[k], 1);
            Due.word(x, "p1");
            Due.is("years of " + funds[k], due[k], x.lasts());
        }
        TowerPipers two = bandWithFund(19997, 2);
        Due.word(two, "p1");
        Due.is("one short for two", 9998, two.lasts());
        TowerPipers whole = bandWithFund(19998, 2);
        Due.word(whole, "p1");
        Due.is("just whole for two", 9999, whole.lasts());
    }

    private static void nobodyOrNothing() {
        TowerPipers x = new TowerPipers();
        Due.is("no pipers", 9999, x.lasts());
        x.piper(1, 1);
        x.piper(1, 1);
        x.ill(1, true);
        Due.is("nobody old", 9999, x.lasts());
        x.old(0);
        Due.is("one is, and nothing is there", 0, x.lasts());
        Due.word(x, "p0");
        Due.is("p is 0", 9999, x.lasts());
        Due.word(x, "p1");
        Due.is("p is 1", 0, x.lasts());
        Due.is("nobody old, with a fund", 9999, bandWithFund(100, 0).lasts());
    }
}
