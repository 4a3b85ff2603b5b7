import java.util.function.Predicate;

/** The boundaries of pipers, pieces, tunes and what is told of them: each sentence by a test of its own. */
public final class BandBoundariesTest {
    private static final int NONE = TowerPipers.NONE;
    private static final int[] NO_NUMBERS = {Integer.MIN_VALUE, -32, -2, NONE, 6, 7, 32, 33, 64, Integer.MAX_VALUE};

    private BandBoundariesTest() {
    }

    public static void main(String[] args) {
        Due.sentence("An object is used for at most 512 calls after it has been made",
            BandBoundariesTest::fiveHundredAndTwelveCalls);
        Due.sentence("`NONE = -1`: There is none.", () -> Due.is("NONE", -1, TowerPipers.NONE));
        Due.sentence("All memory is the band's own.", BandBoundariesTest::memoryIsItsOwn);
        Due.sentence("A call that is refused (NONE, false) changes nothing but the tape, where it is told.",
            BandBoundariesTest::refusedCalls);
        Due.sentence("No PIPERS, CALLS, TUNES; an empty FUND.", BandBoundariesTest::newObject);
        Due.sentence("PIPERS 0 to 5", BandBoundariesTest::numbersOfPipers);
        Due.sentence("a RANK (1 to 9)", BandBoundariesTest::ranks);
        Due.sentence("INSTRUMENTS (0 to 4) that they play (bits)", BandBoundariesTest::instruments);
        Due.sentence("well, or ILL, or OLD (for good)", BandBoundariesTest::oldForGood);
        Due.sentence("PIECES (0 to 3; 1 at first)", BandBoundariesTest::piecesAtFirst);
        Due.sentence("A PIPER, well: the number", BandBoundariesTest::aPiperIsWell);
        Due.sentence("NONE: no such numbers (INSTRUMENTS 1 to 31), 6 are there", BandBoundariesTest::noSuchPipers);
        Due.sentence("PIPER p is ILL (is), or well: true", BandBoundariesTest::illOrWell);
        Due.sentence("false: no such one, it is so, OLD", BandBoundariesTest::illIsRefused);
        Due.sentence("PIPER p is OLD from now on: true", BandBoundariesTest::oldFromNowOn);
        Due.sentence("false: no such one, OLD", BandBoundariesTest::oldIsRefused);
        Due.sentence("PIECES of an INSTRUMENT: true; false: no such ones", BandBoundariesTest::pieces);
        Due.sentence("TUNES 0 to 9", BandBoundariesTest::numbersOfTunes);
        Due.sentence("A TUNE: its number; NONE: no such numbers (0 to 63, 0 to 4095), 10 are there",
            BandBoundariesTest::noSuchTunes);
        Due.sentence("Of PIPER p, what 0 RANK, 1 INSTRUMENTS, 2: 0 well, 1 ILL, 2 OLD; "
            + "3 how many PARTS today (by CALLS that are PLAYED).", BandBoundariesTest::look);
        Due.sentence("PLAYED). NONE for others.", BandBoundariesTest::lookAtOthers);
        Due.sentence("WAGES of PIPER p (0 too for such as there are not)", BandBoundariesTest::wagesOfOthers);
        Due.sentence("p NONE: the FUND.", BandBoundariesTest::wagesOfTheFund);
        Due.sentence("0 the DAY, 1 the MONTH, 2 PIPERS, 3 CALLS, 4 TUNES, 5 bytes of the tape",
            BandBoundariesTest::counts);
        Due.sentence("10 to 13 w, f, p, g", BandBoundariesTest::countsOfTheWord);
        Due.sentence("20 + i PIECES of INSTRUMENT i", BandBoundariesTest::countsOfPieces);
        Due.sentence("30 + t the DAY on which TUNE t was heard last (NONE: never)", BandBoundariesTest::countsOfTunes);
        Due.sentence("(NONE: never). NONE for others.", BandBoundariesTest::countsOfOthers);
        Due.end();
    }

    private static void fiveHundredAndTwelveCalls() {
        TowerPipers x = new TowerPipers();
        Due.is("call 1", 0, x.piper(5, 1));
        Due.is("call 2", 0, x.tune(63, 4095));
        for (int d = 0; d < 101; d++) {
            Due.is("a call", 0, x.call(0, d % 96, 1, d % 10, d % 6, 0, NONE, 9999));
            Due.is("played", 1, x.played());
            Due.is("heard", 0, x.heard(0));
            Due.is("share", 9000, x.share(0, 0));
            Due.is("call " + (7 + 5 * d), d + 1, x.day());
        }
        Due.is("call 508", 0, x.call(0, 95, 1, 9, 5, 0, NONE, 9999));
        Due.is("call 509", 102, x.day());
        Due.is("call 510", 102 * 9000, x.wages(0));
        Due.is("call 511", 102 * 999, x.wages(NONE));
        Due.is("call 512", 101, x.count(30));
    }

    private static void memoryIsItsOwn() {
        TowerPipers x = new TowerPipers();
        TowerPipers y = new TowerPipers();
        fill(x);
        Due.same("another object", Bands.picture(new TowerPipers()), Bands.picture(y));
        TowerPipers z = new TowerPipers();
        fill(z);
        Due.same("the same calls again", Bands.picture(x), Bands.picture(z));
    }

    /** Six pipers, six calls, ten tunes and forty bytes. */
    private static void fill(TowerPipers x) {
        Due.word(x, "w3;f7;p30;g9");
        for (int p = 0; p < 6; p++) {
            x.piper(p + 1, 31 - p);
        }
        for (int t = 0; t < 10; t++) {
            x.tune(63 - t, 4095 - 2 * t);
        }
        x.pieces(2, 2);
        x.pieces(4, 0);
        x.call(1, 0, 1, 0, 0, 0, 1, 77);
        x.call(0, 0, 1, 0, 0, 4, NONE, 77);
        x.day();
        for (int c = 0; c < 6; c++) {
            x.call(c % 4, 3 * c, 3, c, c, c % 5, c == 2 ? NONE : 2, 100 + c);
        }
        x.ill(1, true);
        x.old(2);
        Due.feed(x, "w2;f3;p4;g5;w1;f2;p6;g7;w3;f4;p8;g9;w5;f");
    }

    /** A band with room for more of all. */
    private static void fillHalf(TowerPipers x) {
        x.piper(3, 7);
        x.piper(2, 5);
        x.old(1);
        x.piper(4, 1);
        x.tune(63, 4095);
        x.call(0, 0, 4, 0, 0, 0, NONE, 100);
        x.day();
        x.call(0, 0, 4, 0, 0, 0, NONE, 100);
        x.call(1, 2, 4, 0, 0, 0, 1, 100);
        Due.feed(x, "w2");
    }

    private static void isRefusedByFull(String what, Predicate<TowerPipers> refused) {
        TowerPipers x = new TowerPipers();
        TowerPipers twin = new TowerPipers();
        fill(x);
        fill(twin);
        isRefused(what + ", a full band", x, twin, refused);
    }

    private static void isRefusedByHalf(String what, Predicate<TowerPipers> refused) {
        TowerPipers x = new TowerPipers();
        TowerPipers twin = new TowerPipers();
        fillHalf(x);
        fillHalf(twin);
        isRefused(what, x, twin, refused);
    }

    private static void isRefused(String what, TowerPipers x, TowerPipers twin, Predicate<TowerPipers> refused) {
        Due.yes(what + " is refused:", refused.test(x));
        Due.same("behind " + what + ", the band", Bands.picture(twin), Bands.picture(x));
    }

    private static void refusedCalls() {
        isRefusedByFull("feed", x -> x.feed(-1, -1, -1, -1, -1) == NONE);
        isRefusedByFull("piper", x -> x.piper(1, 1) == NONE);
        isRefusedByFull("call", x -> x.call(0, 90, 1, 0, 0, 0, NONE, 1) == NONE);
        isRefusedByFull("tune", x -> x.tune(1, 1) == NONE);
        isRefusedByFull("word(41)", x -> x.word(41) == NONE);
        isRefusedByHalf("word(21)", x -> x.word(21) == NONE);
        isRefusedByHalf("word(-1)", x -> x.word(-1) == NONE);
        isRefusedByHalf("piper of no rank", x -> x.piper(0, 1) == NONE);
        isRefusedByHalf("piper of no instrument", x -> x.piper(1, 32) == NONE);
        isRefusedByHalf("ill, no such one", x -> !x.ill(3, true));
        isRefusedByHalf("ill, no number", x -> !x.ill(NONE, true));
        isRefusedByHalf("ill, well before", x -> !x.ill(0, false));
        isRefusedByHalf("ill, old", x -> !x.ill(1, true));
        isRefusedByHalf("well, old", x -> !x.ill(1, false));
        isRefusedByFull("ill, ill before", x -> !x.ill(1, true));
        isRefusedByHalf("old, no such one", x -> !x.old(3));
        isRefusedByHalf("old, no number", x -> !x.old(NONE));
        isRefusedByHalf("old, old before", x -> !x.old(1));
        isRefusedByHalf("pieces of none", x -> !x.pieces(5, 0));
        isRefusedByHalf("pieces of none", x -> !x.pieces(-1, 0));
        isRefusedByHalf("too many pieces", x -> !x.pieces(0, 4));
        isRefusedByHalf("too few pieces", x -> !x.pieces(0, -1));
        isRefusedByHalf("call of no order", x -> x.call(4, 8, 1, 0, 0, 0, NONE, 1) == NONE);
        isRefusedByHalf("call beyond the day", x -> x.call(0, 90, 7, 0, 0, 0, NONE, 1) == NONE);
        isRefusedByHalf("call of no fee", x -> x.call(0, 90, 1, 0, 0, 0, NONE, -1) == NONE);
        isRefusedByHalf("off, none such", x -> !x.off(2));
        isRefusedByHalf("off, no number", x -> !x.off(NONE));
        isRefusedByHalf("off, number 32", x -> !x.off(32));
        isRefusedByHalf("tune of no occasions", x -> x.tune(64, 1) == NONE);
        isRefusedByHalf("tune of no months", x -> x.tune(1, 4096) == NONE);
        isRefusedByHalf("who, not played", x -> x.who(1, 0) == NONE);
        isRefusedByHalf("who, no part", x -> x.who(0, 2) == NONE);
        isRefusedByHalf("heard, not played", x -> x.heard(1) == NONE);
        isRefusedByHalf("heard, none such", x -> x.heard(6) == NONE);
        isRefusedByHalf("share, not played", x -> x.share(1, 0) == NONE);
        isRefusedByHalf("share, no such one", x -> x.share(0, 3) == NONE);
        isRefusedByHalf("look", x -> x.look(3, 0) == NONE);
        isRefusedByHalf("about", x -> x.about(2, 0) == NONE);
        isRefusedByHalf("count", x -> x.count(6) == NONE);
        // A fault is the one answer of which it is told that the tape goes.
        TowerPipers x = new TowerPipers();
        fillHalf(x);
        Due.is("a fault", 502, x.word(3));
        Due.is("the tape", 0, x.count(5));
        Due.isWord("the word", x, 1, 10, 100, 50);
    }

    private static void newObject() {
        TowerPipers x = new TowerPipers();
        for (int what = 2; what <= 4; what++) {
            Due.is("count " + what, 0, x.count(what));
        }
        for (int n = 0; n < 6; n++) {
            Due.is("no piper", NONE, x.look(n, 0));
            Due.is("no wages", 0, x.wages(n));
            Due.is("no call", NONE, x.about(n, 0));
            Due.is("no call to play", NONE, x.who(n, 0));
            Due.is("no call with a tune", NONE, x.heard(n));
            Due.is("no call with a share", NONE, x.share(n, NONE));
        }
        for (int t = 0; t < 10; t++) {
            Due.is("no tune", NONE, x.count(30 + t));
        }
        Due.is("an empty fund", 0, x.wages(NONE));
        Due.is("an empty tape", 0, x.count(5));
        Due.is("day 0", 0, x.count(0));
        Due.is("month 0", 0, x.count(1));
        Due.is("none played", 0, x.played());
        Due.is("nobody old", 9999, x.lasts());
        Due.is("an empty day goes by", 1, x.day());
        Due.is("still an empty fund", 0, x.wages(NONE));
    }

    private static void numbersOfPipers() {
        TowerPipers x = new TowerPipers();
        for (int p = 0; p <= 5; p++) {
            Due.is("not there", NONE, x.look(p, 2));
            Due.is("number", p, x.piper(p + 1, p + 1));
            Due.is("so many", p + 1, x.count(2));
            Due.is("there", p + 1, x.look(p, 0));
        }
        Due.is("no sixth number", NONE, x.look(6, 2));
        Due.yes("the first one", x.old(0));
        Due.yes("the last one", x.old(5));
    }

    private static void ranks() {
        for (int rank = -3; rank <= 12; rank++) {
            TowerPipers x = new TowerPipers();
            boolean right = rank >= 1 && rank <= 9;
            Due.is("rank " + rank, right ? 0 : NONE, x.piper(rank, 1));
            Due.is("rank", right ? rank : NONE, x.look(0, 0));
            Due.is("so many", right ? 1 : 0, x.count(2));
        }
        Due.is("far below", NONE, new TowerPipers().piper(Integer.MIN_VALUE, 1));
        Due.is("far above", NONE, new TowerPipers().piper(Integer.MAX_VALUE, 1));
    }

    private static void instruments() {
        for (int i = 0; i <= 4; i++) {
            TowerPipers x = Bands.of(1 << i);
            Due.is("instruments", 1 << i, x.look(0, 1));
            for (int asked = 0; asked <= 4; asked++) {
                Bands.simple(x, 1, asked, 1, asked);
            }
            Due.is("instrument " + i + " alone", 1 << i, x.played());
        }
        TowerPipers all = Bands.of(31);
        for (int i = 0; i <= 4; i++) {
            Bands.simple(all, 1, i, 1, i);
        }
        Due.is("all five", 31, all.played());
        Due.is("no sixth", NONE, Bands.simple(all, 1, 9, 1, 5));
    }

    private static void oldForGood() {
        TowerPipers x = Bands.of(1, 1, 1);
        Due.is("well", 0, x.look(0, 2));
        x.ill(1, true);
        x.old(2);
        Bands.simple(x, 1, 0, 1, 0);
        for (int d = 0; d < 3; d++) {
            Due.is("well", 0, x.look(0, 2));
            Due.is("ill", 1, x.look(1, 2));
            Due.is("old", 2, x.look(2, 2));
            Due.no("not well again", x.ill(2, false));
            Due.no("not ill", x.ill(2, true));
            Due.no("not twice", x.old(2));
            x.day();
        }
        Due.yes("ill is not for good", x.ill(1, false));
        Due.is("well", 0, x.look(1, 2));
    }

    private static void piecesAtFirst() {
        for (int i = 0; i < 5; i++) {
            TowerPipers x = new TowerPipers();
            for (int p = 0; p < 5; p++) {
                x.piper(1, 31);
            }
            for (int c = 0; c < 5; c++) {
                Bands.simple(x, 1, 0, 1, i);
            }
            Due.is("one at first", 1, x.count(20 + i));
            Due.is("one at first", 0b1, x.played());
            for (int n = 0; n <= 3; n++) {
                Due.yes("pieces " + n, x.pieces(i, n));
                Due.is("so many are played", (1 << n) - 1, x.played());
            }
            Due.no("a fourth", x.pieces(i, 4));
            Due.is("still three", 0b111, x.played());
        }
    }

    private static void aPiperIsWell() {
        TowerPipers x = new TowerPipers();
        Bands.simple(x, 1, 0, 1, 0);
        for (int p = 0; p < 6; p++) {
            Due.is("number", p, x.piper(1, 1));
            Due.is("well", 0, x.look(p, 2));
            Due.is("no wages yet", 0, x.wages(p));
            Due.is("plays at once", p, x.who(0, 0));
            x.ill(p, true);
        }
    }

    private static void noSuchPipers() {
        for (int plays = -3; plays <= 36; plays++) {
            TowerPipers x = new TowerPipers();
            boolean right = plays >= 1 && plays <= 31;
            Due.is("instruments " + plays, right ? 0 : NONE, x.piper(1, plays));
            Due.is("instruments", right ? plays : NONE, x.look(0, 1));
            Due.is("so many", right ? 1 : 0, x.count(2));
        }
        for (int plays : new int[] {64, 33 << 5, Integer.MIN_VALUE, Integer.MIN_VALUE + 1, Integer.MAX_VALUE}) {
            Due.is("instruments " + plays, NONE, new TowerPipers().piper(1, plays));
        }
        TowerPipers full = new TowerPipers();
        for (int p = 0; p < 6; p++) {
            full.piper(9, 31);
        }
        Due.is("a seventh", NONE, full.piper(1, 1));
        full.old(5);
        full.ill(4, true);
        Due.is("the old and the ill are there", NONE, full.piper(1, 1));
        full.day();
        Due.is("a seventh on another day", NONE, full.piper(1, 1));
        Due.is("six", 6, full.count(2));
    }

    private static void illOrWell() {
        TowerPipers x = Bands.of(1, 1, 1, 1, 1, 1);
        Bands.simple(x, 1, 0, 1, 0);
        for (int p = 0; p < 6; p++) {
            Due.is("plays", p, x.who(0, 0));
            Due.yes("ill", x.ill(p, true));
            Due.is("ill", 1, x.look(p, 2));
        }
        Due.is("nobody plays", 0, x.played());
        for (int p = 5; p >= 0; p--) {
            Due.yes("well", x.ill(p, false));
            Due.is("well", 0, x.look(p, 2));
            Due.is("plays", p, x.who(0, 0));
        }
    }

    private static void illIsRefused() {
        TowerPipers x = new TowerPipers();
        Due.no("nobody is there", x.ill(0, true));
        Due.no("nobody is there", x.ill(0, false));
        x.piper(1, 1);
        x.piper(1, 1);
        Due.no("well before", x.ill(0, false));
        x.ill(0, true);
        Due.no("ill before", x.ill(0, true));
        Due.no("the next number", x.ill(2, true));
        for (int p : NO_NUMBERS) {
            Due.no("no number " + p, x.ill(p, true));
            Due.no("no number " + p, x.ill(p, false));
        }
        x.old(0);
        x.old(1);
        for (int p = 0; p < 2; p++) {
            Due.no("old", x.ill(p, true));
            Due.no("old", x.ill(p, false));
            Due.is("still old", 2, x.look(p, 2));
        }
    }

    private static void oldFromNowOn() {
        TowerPipers x = Bands.of(1, 1, 1);
        Bands.simple(x, 1, 0, 1, 0);
        x.ill(2, true);
        Due.is("plays", 0, x.who(0, 0));
        Due.yes("old, who was well", x.old(0));
        Due.is("old", 2, x.look(0, 2));
        Due.is("plays no more", 1, x.who(0, 0));
        Due.yes("old, who was ill", x.old(2));
        Due.is("old", 2, x.look(2, 2));
        Due.is("the fund is empty", 0, x.lasts());
        x.day();
        Due.is("old on the next day", 2, x.look(0, 2));
    }

    private static void oldIsRefused() {
        TowerPipers x = new TowerPipers();
        Due.no("nobody is there", x.old(0));
        for (int p = 0; p < 5; p++) {
            x.piper(1, 1);
        }
        Due.no("the next number", x.old(5));
        for (int p : NO_NUMBERS) {
            Due.no("no number " + p, x.old(p));
        }
        for (int p = 0; p < 5; p++) {
            Due.is("nobody is old", 0, x.look(p, 2));
        }
        Due.yes("the last one", x.old(4));
        Due.no("old before", x.old(4));
    }

    private static void pieces() {
        for (int i = -3; i <= 8; i++) {
            for (int n = -3; n <= 6; n++) {
                TowerPipers x = new TowerPipers();
                boolean right = i >= 0 && i <= 4 && n >= 0 && n <= 3;
                Due.is("pieces " + i + " " + n, right ? 1 : 0, x.pieces(i, n) ? 1 : 0);
                for (int other = 0; other < 5; other++) {
                    Due.is("pieces of " + other, right && other == i ? n : 1, x.count(20 + other));
                }
            }
        }
        TowerPipers x = new TowerPipers();
        Due.yes("as many as there are", x.pieces(0, 1));
        for (int far : new int[] {Integer.MIN_VALUE, 32, 256, Integer.MAX_VALUE}) {
            Due.no("no instrument " + far, x.pieces(far, 1));
            Due.no("no such many " + far, x.pieces(1, far));
        }
        for (int i = 0; i < 5; i++) {
            Due.is("as at first", 1, x.count(20 + i));
        }
    }

    private static void numbersOfTunes() {
        TowerPipers x = Bands.of(1);
        for (int t = 0; t <= 9; t++) {
            Due.is("number", t, x.tune(63, 4095));
            Due.is("so many", t + 1, x.count(4));
        }
        // Each of them is played in its turn, and behind the last one the first one again.
        for (int k = 0; k < 24; k++) {
            Due.is("call", k % 6, Bands.occasion(x, 1, k % 6, 0));
            Due.is("tune", k % 10, x.heard(k % 6));
            if (k % 6 == 5) {
                x.day();
            }
        }
    }

    private static void noSuchTunes() {
        int[] rightOccasions = {0, 1, 32, 62, 63};
        int[] wrongOccasions = {Integer.MIN_VALUE, -64, -1, 64, 65, 127, 128, Integer.MAX_VALUE};
        int[] rightMonths = {0, 1, 2048, 4094, 4095};
        int[] wrongMonths = {Integer.MIN_VALUE, -4096, -1, 4096, 4097, 8191, 8192, Integer.MAX_VALUE};
        for (int k = 0; k < 5; k++) {
            TowerPipers x = new TowerPipers();
            Due.is("occasions " + rightOccasions[k], 0, x.tune(rightOccasions[k], 4095));
            Due.is("months " + rightMonths[k], 1, x.tune(63, rightMonths[k]));
        }
        TowerPipers x = new TowerPipers();
        for (int k = 0; k < 8; k++) {
            Due.is("occasions " + wrongOccasions[k], NONE, x.tune(wrongOccasions[k], 1));
            Due.is("months " + wrongMonths[k], NONE, x.tune(1, wrongMonths[k]));
        }
        Due.is("none came", 0, x.count(4));
        for (int t = 0; t < 10; t++) {
            Due.is("tune", t, x.tune(0, 0));
        }
        Due.is("an eleventh", NONE, x.tune(0, 0));
        x.day();
        Due.is("an eleventh on another day", NONE, x.tune(63, 4095));
        Due.is("ten", 10, x.count(4));
    }

    private static void look() {
        TowerPipers x = new TowerPipers();
        int[] ranks = {1, 9, 5, 4, 3, 2};
        int[] plays = {1, 31, 16, 2, 4, 8};
        for (int p = 0; p < 6; p++) {
            x.piper(ranks[p], plays[p]);
        }
        x.ill(2, true);
        x.old(3);
        int[] states = {0, 0, 1, 2, 0, 0};
        // Six calls of piper 0; those of instrument 4 at the same time are piper 1's but for the last one.
        for (int c = 0; c < 6; c++) {
            x.call(1, c, 1, 0, 0, 0, c < 5 ? 4 : 1, 0);
        }
        x.pieces(1, 0);
        int[] parts = {5, 5, 0, 0, 0, 0};
        for (int p = 0; p < 6; p++) {
            Due.is("rank", ranks[p], x.look(p, 0));
            Due.is("instruments", plays[p], x.look(p, 1));
            Due.is("state", states[p], x.look(p, 2));
            Due.is("parts of calls that are played", parts[p], x.look(p, 3));
        }
        x.pieces(1, 1);
        Due.is("all six", 6, x.look(0, 3));
        Due.is("all six", 6, x.look(1, 3));
        x.ill(1, true);
        Due.is("none without the other part", 0, x.look(0, 3));
        Due.is("none of the ill", 0, x.look(1, 3));
        x.ill(1, false);
        x.day();
        Due.is("none on a new day", 0, x.look(0, 3));
        Due.is("the rank stays", 9, x.look(1, 0));
    }

    private static void lookAtOthers() {
        TowerPipers x = Bands.of(1, 1, 1, 1, 1);
        for (int what : new int[] {Integer.MIN_VALUE, -2, -1, 4, 5, 32, Integer.MAX_VALUE}) {
            Due.is("no such thing " + what, NONE, x.look(0, what));
        }
        for (int what = 0; what < 4; what++) {
            Due.is("the next number", NONE, x.look(5, what));
            for (int p : NO_NUMBERS) {
                Due.is("no number " + p, NONE, x.look(p, what));
            }
        }
    }

    private static void wagesOfOthers() {
        TowerPipers x = Bands.of(1, 2, 2, 2, 2);
        Bands.paid(x, 0, 1000);
        x.day();
        Due.is("wages", 900, x.wages(0));
        for (int p = 1; p < 5; p++) {
            Due.is("none yet", 0, x.wages(p));
        }
        Due.is("the next number", 0, x.wages(5));
        for (int p : NO_NUMBERS) {
            if (p != NONE) {
                Due.is("no number " + p, 0, x.wages(p));
            }
        }
        x.piper(1, 1);
        Due.is("a new one has none", 0, x.wages(5));
        x.old(0);
        Due.is("an old one keeps them", 900, x.wages(0));
    }

    private static void wagesOfTheFund() {
        TowerPipers x = Bands.of(1);
        Due.is("empty", 0, x.wages(NONE));
        Bands.paid(x, 0, 1000);
        Due.is("not before the day goes by", 0, x.wages(NONE));
        x.day();
        Due.is("a share", 100, x.wages(NONE));
        Bands.simple(x, 0, 0, 1, 4);
        x.day();
        Due.is("a fine", 150, x.wages(NONE));
    }

    private static void counts() {
        TowerPipers x = new TowerPipers();
        Bands.days(x, 31);
        x.piper(1, 1);
        x.piper(1, 1);
        x.old(0);
        x.tune(0, 0);
        x.tune(0, 0);
        x.tune(0, 0);
        for (int c = 0; c < 6; c++) {
            Bands.simple(x, 1, 0, 1, 4);
        }
        x.off(2);
        x.off(0);
        x.feed(0, 0, 0, 0, 0);
        int[] due = {31, 1, 2, 4, 3, 20};
        for (int what = 0; what < 6; what++) {
            Due.is("count " + what, due[what], x.count(what));
        }
        x.day();
        x.word(0);
        int[] next = {32, 1, 2, 0, 3, 0};
        for (int what = 0; what < 6; what++) {
            Due.is("count " + what, next[what], x.count(what));
        }
    }

    private static void countsOfTheWord() {
        TowerPipers x = new TowerPipers();
        Due.isWord("at first", x, 1, 10, 100, 50);
        Due.is("word", 0, Due.word(x, "w20;f100;p9999;g9998"));
        Due.isWord("then", x, 20, 100, 9999, 9998);
        Due.is("below w", NONE, x.count(9));
        Due.is("above g", NONE, x.count(14));
    }

    private static void countsOfPieces() {
        TowerPipers x = new TowerPipers();
        int[] due = {3, 0, 2, 1, 3};
        for (int i = 0; i < 5; i++) {
            Due.is("at first", 1, x.count(20 + i));
            x.pieces(i, due[i]);
        }
        for (int i = 0; i < 5; i++) {
            Due.is("then", due[i], x.count(20 + i));
        }
        Due.is("below instrument 0", NONE, x.count(19));
        Due.is("above instrument 4", NONE, x.count(25));
    }

    private static void countsOfTunes() {
        TowerPipers x = Bands.of(1);
        for (int t = 0; t < 10; t++) {
            Due.is("not there", NONE, x.count(30 + t));
            x.tune(t == 9 ? 2 : 1, 4095);
            Due.is("never", NONE, x.count(30 + t));
        }
        Bands.occasion(x, 1, 0, 0);
        Due.is("not before the day goes by", NONE, x.count(30));
        x.day();
        Due.is("on day 0", 0, x.count(30));
        Bands.days(x, 2);
        Bands.occasion(x, 1, 0, 1);
        Bands.occasion(x, 1, 1, 0);
        x.day();
        Due.is("the last one, on day 3", 3, x.count(39));
        Due.is("the second, on day 3", 3, x.count(31));
        Due.is("the first, on day 0", 0, x.count(30));
        for (int t = 2; t < 9; t++) {
            Due.is("never", NONE, x.count(30 + t));
        }
        Bands.occasion(x, 1, 0, 1);
        x.day();
        Due.is("heard last on day 4", 4, x.count(39));
        Due.is("below tune 0", NONE, x.count(29));
        Due.is("above tune 9", NONE, x.count(40));
    }

    private static void countsOfOthers() {
        TowerPipers x = Bands.of(1);
        for (int t = 0; t < 10; t++) {
            x.tune(63, 4095);
        }
        for (int what = -70; what < 140; what++) {
            boolean told = what >= 0 && what <= 5 || what >= 10 && what <= 13 || what >= 20 && what <= 24;
            if (!told) {
                Due.is("no such thing " + what, NONE, x.count(what));
            }
        }
        for (int what : new int[] {Integer.MIN_VALUE, Integer.MIN_VALUE + 30, Integer.MAX_VALUE}) {
            Due.is("no such thing " + what, NONE, x.count(what));
        }
    }
}
