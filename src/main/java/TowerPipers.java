import java.util.Arrays;

/** A town band: its pipers, the calls of a day, the tunes, the wages and the fund of the old. */
public final class TowerPipers {
    public static final int NONE = -1;

    private static final int PIPERS = 6;
    private static final int CALLS = 6;
    private static final int TUNES = 10;
    private static final int INSTRUMENTS = 5;
    private static final int HIGHEST_RANK = 9;
    private static final int ALL_INSTRUMENTS = 31;
    private static final int ALL_OCCASIONS = 63;
    private static final int ALL_MONTHS = 4095;
    private static final int MOST_PIECES = 3;
    private static final int LAST_DAY = 9999;
    private static final int DAYS_OF_A_MONTH = 30;
    private static final int MONTHS_OF_A_YEAR = 12;
    private static final int DAYS_OF_A_YEAR = 360;
    private static final int MOST_YEARS = 9999;

    private final Tape tape = new Tape();
    private final TownWord townWord = new TownWord();
    private final Piper[] pipers = new Piper[PIPERS];
    private final Call[] calls = new Call[CALLS];
    private final Tune[] tunes = new Tune[TUNES];
    private final int[] piecesOf = {1, 1, 1, 1, 1};
    private final int[] asked = new int[Call.FACTS];
    private final Plan plan = new Plan();
    private int piperCount = 0;
    private int tuneCount = 0;
    private int today = 0;
    private int fund = 0;
    private boolean planned = false;

    public TowerPipers() {
        for (int p = 0; p < PIPERS; p++) {
            pipers[p] = new Piper();
        }
        for (int c = 0; c < CALLS; c++) {
            calls[c] = new Call();
        }
        for (int t = 0; t < TUNES; t++) {
            tunes[t] = new Tune();
        }
    }

    public int feed(int a, int b, int c, int d, int e) {
        if (!tape.hasRoom()) {
            return NONE;
        }
        tape.put(a);
        tape.put(b);
        tape.put(c);
        tape.put(d);
        tape.put(e);
        return tape.size();
    }

    public int word(int n) {
        if (n < 0 || n > tape.size()) {
            return NONE;
        }
        int fault = townWord.read(tape, n);
        tape.empty();
        planned = false;
        return fault;
    }

    public int piper(int rank, int plays) {
        if (piperCount >= PIPERS || !within(rank, 1, HIGHEST_RANK) || !within(plays, 1, ALL_INSTRUMENTS)) {
            return NONE;
        }
        int p = piperCount;
        pipers[p].join(rank, plays);
        piperCount++;
        planned = false;
        return p;
    }

    public boolean ill(int p, boolean is) {
        int state = is ? Piper.ILL : Piper.WELL;
        if (!isPiper(p) || pipers[p].state == Piper.OLD || pipers[p].state == state) {
            return false;
        }
        pipers[p].state = state;
        planned = false;
        return true;
    }

    public boolean old(int p) {
        if (!isPiper(p) || pipers[p].state == Piper.OLD) {
            return false;
        }
        pipers[p].state = Piper.OLD;
        planned = false;
        return true;
    }

    public boolean pieces(int i, int n) {
        if (!within(i, 0, INSTRUMENTS - 1) || !within(n, 0, MOST_PIECES)) {
            return false;
        }
        piecesOf[i] = n;
        planned = false;
        return true;
    }

    // The document's face has eight parameters here; LANGUAGE.md's seven are for methods of our own.
    public int call(int order, int from, int length, int place, int occasion, int one, int two, int fee) {
        asked[Call.ORDER] = order;
        asked[Call.FROM] = from;
        asked[Call.LENGTH] = length;
        asked[Call.PLACE] = place;
        asked[Call.OCCASION] = occasion;
        asked[Call.ONE] = one;
        asked[Call.TWO] = two;
        asked[Call.FEE] = fee;
        int c = freeCall();
        if (c == NONE || !Call.canBe(asked)) {
            return NONE;
        }
        calls[c].come(asked);
        planned = false;
        return c;
    }

    public boolean off(int c) {
        if (!isCall(c)) {
            return false;
        }
        calls[c].go();
        planned = false;
        return true;
    }

    public int played() {
        return planOfToday().playedBits();
    }

    public int who(int c, int k) {
        return planOfToday().piperOf(c, k);
    }

    public int tune(int occasions, int months) {
        if (tuneCount >= TUNES || !within(occasions, 0, ALL_OCCASIONS) || !within(months, 0, ALL_MONTHS)) {
            return NONE;
        }
        int t = tuneCount;
        tunes[t].learn(occasions, months);
        tuneCount++;
        planned = false;
        return t;
    }

    public int heard(int c) {
        return planOfToday().tuneOf(c);
    }

    public int share(int c, int p) {
        Plan now = planOfToday();
        if (!now.has(c)) {
            return NONE;
        }
        if (p == NONE) {
            return fundShare(c);
        }
        return isPiper(p) ? piperShare(now, c, p) : NONE;
    }

    public int day() {
        if (today >= LAST_DAY) {
            return NONE;
        }
        Plan now = planOfToday();
        for (int c = 0; c < CALLS; c++) {
            if (now.has(c)) {
                settle(now, c);
            } else if (calls[c].isOfOrder(Call.TOWN)) {
                fineTheWell();
            }
        }
        now.hearTunes(tunes);
        for (int c = 0; c < CALLS; c++) {
            calls[c].go();
        }
        planned = false;
        today++;
        if (today % DAYS_OF_A_YEAR == 0) {
            payTheOld();
        }
        return today;
    }

    public int lasts() {
        int yearly = 0;
        for (int p = 0; p < piperCount; p++) {
            if (pipers[p].state == Piper.OLD) {
                yearly += townWord.number(TownWord.PENSION);
            }
        }
        return yearly == 0 ? MOST_YEARS : Math.min(MOST_YEARS, fund / yearly);
    }

    public int look(int p, int what) {
        if (!isPiper(p)) {
            return NONE;
        }
        switch (what) {
            case 0:
                return pipers[p].rank;
            case 1:
                return pipers[p].plays;
            case 2:
                return pipers[p].state;
            case 3:
                return planOfToday().partsOf(p);
            default:
                return NONE;
        }
    }

    public int wages(int p) {
        if (p == NONE) {
            return fund;
        }
        return isPiper(p) ? pipers[p].wages : 0;
    }

    public int about(int c, int what) {
        return isCall(c) && within(what, 0, Call.FACTS - 1) ? calls[c].fact(what) : NONE;
    }

    public int count(int what) {
        if (within(what, 10, 13)) {
            return townWord.number(what - 10);
        }
        if (within(what, 20, 20 + INSTRUMENTS - 1)) {
            return piecesOf[what - 20];
        }
        if (within(what, 30, 30 + TUNES - 1)) {
            return tunes[what - 30].dayHeard();
        }
        switch (what) {
            case 0:
                return today;
            case 1:
                return monthOfToday();
            case 2:
                return piperCount;
            case 3:
                return callCount();
            case 4:
                return tuneCount;
            case 5:
                return tape.size();
            default:
                return NONE;
        }
    }

    private static boolean within(int number, int least, int most) {
        return number >= least && number <= most;
    }

    private static boolean hasBit(int bits, int bit) {
        return (bits >> bit & 1) == 1;
    }

    private boolean isPiper(int p) {
        return within(p, 0, piperCount - 1);
    }

    private boolean isCall(int c) {
        return within(c, 0, CALLS - 1) && calls[c].there;
    }

    private int freeCall() {
        for (int c = 0; c < CALLS; c++) {
            if (!calls[c].there) {
                return c;
            }
        }
        return NONE;
    }

    private int callCount() {
        int count = 0;
        for (int c = 0; c < CALLS; c++) {
            if (calls[c].there) {
                count++;
            }
        }
        return count;
    }

    private int monthOfToday() {
        return today / DAYS_OF_A_MONTH % MONTHS_OF_A_YEAR;
    }

    // Most calls only ask, so a plan is kept until something that it rests on changes.
    private Plan planOfToday() {
        if (!planned) {
            plan.castCalls(calls, pipers, piecesOf, townWord.number(TownWord.WAY));
            plan.chooseTunes(calls, tunes, monthOfToday(), today * CALLS);
            planned = true;
        }
        return plan;
    }

    private int fundShare(int c) {
        return calls[c].fact(Call.FEE) * townWord.number(TownWord.FUND_PART) / 100;
    }

    private int piperShare(Plan now, int c, int p) {
        int first = now.piperOf(c, 0);
        int second = now.piperOf(c, 1);
        int rest = calls[c].fact(Call.FEE) - fundShare(c);
        if (p == first) {
            return second == NONE ? rest : partOfTwo(rest, p, second);
        }
        return p == second ? partOfTwo(rest, p, first) : 0;
    }

    // Of two at most one penny is left over: their two remainders are less than two whole divisors.
    private int partOfTwo(int pence, int p, int other) {
        if (!isPiper(p) || !isPiper(other)) {
            return 0;
        }
        int ranks = Math.max(1, pipers[p].rank + pipers[other].rank);
        int mine = pence * pipers[p].rank;
        int others = pence * pipers[other].rank;
        int left = pence - mine / ranks - others / ranks;
        boolean comesToMe = mine % ranks > others % ranks || mine % ranks == others % ranks && p < other;
        return mine / ranks + (comesToMe ? left : 0);
    }

    private void settle(Plan now, int c) {
        for (int p = 0; p < piperCount; p++) {
            pipers[p].wages += piperShare(now, c, p);
        }
        fund += fundShare(c);
    }

    private void fineTheWell() {
        int fine = townWord.number(TownWord.FINE);
        for (int p = 0; p < piperCount; p++) {
            if (pipers[p].state == Piper.WELL) {
                pipers[p].wages -= fine;
                fund += fine;
            }
        }
    }

    private void payTheOld() {
        for (int p = 0; p < piperCount; p++) {
            if (pipers[p].state == Piper.OLD) {
                int paid = Math.min(fund, townWord.number(TownWord.PENSION));
                pipers[p].wages += paid;
                fund -= paid;
            }
        }
    }

    /** The bytes that have been fed and not been taken as a word yet. */
    private static final class Tape {
        static final int MOST = 40;
        private static final int FED_AT_ONCE = 20;

        private final int[] bytes = new int[MOST];
        private int length = 0;

        int size() {
            return length;
        }

        boolean hasRoom() {
            return length + FED_AT_ONCE <= MOST;
        }

        void put(int four) {
            for (int shift = 24; shift >= 0 && length < MOST; shift -= 8) {
                bytes[length] = four >> shift & 255;
                length++;
            }
        }

        int byteAt(int place) {
            return within(place, 0, length - 1) ? bytes[place] : NONE;
        }

        void empty() {
            length = 0;
        }
    }

    /** The four numbers that the town has set, and how they are read from a tape. */
    private static final class TownWord {
        static final int WAY = 0;
        static final int FUND_PART = 1;
        static final int PENSION = 2;
        static final int FINE = 3;

        private static final int NUMBERS = 4;
        private static final int MOST_DIGITS = 4;
        private static final int NO_LETTER = 100;
        private static final int NO_DIGIT = 200;
        private static final int FIFTH_DIGIT = 300;
        private static final int BAD_NUMBER = 400;
        private static final int BAD_END = 500;
        private static final char[] LETTERS = {'w', 'f', 'p', 'g'};
        private static final int[] AT_FIRST = {1, 10, 100, 50};
        private static final int[] HIGHEST = {20, 100, 9999, 9999};

        private final int[] numbers = {1, 10, 100, 50};
        private final int[] coming = new int[NUMBERS];

        int number(int kind) {
            return within(kind, 0, NUMBERS - 1) ? numbers[kind] : NONE;
        }

        /** The first bytes of the tape are the word from now on: 0, or the fault for which it stays. */
        int read(Tape tape, int length) {
            System.arraycopy(AT_FIRST, 0, coming, 0, NUMBERS);
            int at = 0;
            // A clause has bytes of its own, so the counter never ends a word early: it shows the loop's end.
            for (int clause = 0; clause <= length && at <= length; clause++) {
                int kind = kindAt(tape, at, length);
                if (kind == NONE) {
                    return NO_LETTER + at;
                }
                int first = at + 1;
                int end = endOfDigits(tape, first, length);
                int number = numberBetween(tape, first, end);
                int fault = faultOfNumber(tape, first, end, length, number > HIGHEST[kind]);
                if (fault != 0) {
                    return fault;
                }
                coming[kind] = number;
                at = end + 1;
            }
            System.arraycopy(coming, 0, numbers, 0, NUMBERS);
            return 0;
        }

        private static int faultOfNumber(Tape tape, int first, int end, int length, boolean tooHigh) {
            if (end == first) {
                return NO_DIGIT + first;
            }
            if (isDigit(tape, end, length)) {
                return FIFTH_DIGIT + end;
            }
            if (tooHigh) {
                return BAD_NUMBER + first;
            }
            return end < length && tape.byteAt(end) != ';' ? BAD_END + end : 0;
        }

        private static int kindAt(Tape tape, int at, int length) {
            for (int kind = 0; kind < NUMBERS && at < length; kind++) {
                if (tape.byteAt(at) == LETTERS[kind]) {
                    return kind;
                }
            }
            return NONE;
        }

        private static boolean isDigit(Tape tape, int at, int length) {
            return at < length && within(tape.byteAt(at), '0', '9');
        }

        private static int endOfDigits(Tape tape, int first, int length) {
            int end = first;
            while (end < first + MOST_DIGITS && isDigit(tape, end, length)) {
                end++;
            }
            return end;
        }

        private static int numberBetween(Tape tape, int first, int end) {
            int number = 0;
            for (int at = first; at < end; at++) {
                number = number * 10 + tape.byteAt(at) - '0';
            }
            return number;
        }
    }

    /** A piper; one who has not joined yet plays nothing. */
    private static final class Piper {
        static final int WELL = 0;
        static final int ILL = 1;
        static final int OLD = 2;

        private int rank = 0;
        private int plays = 0;
        private int state = WELL;
        private int wages = 0;

        void join(int newRank, int instruments) {
            rank = newRank;
            plays = instruments;
        }

        boolean canPlay(int instrument) {
            return state == WELL && hasBit(plays, instrument);
        }
    }

    /** A tune; one that is not there yet fits nothing. */
    private static final class Tune {
        private int occasions = 0;
        private int months = 0;
        // Turns are counted on from day to day, one for each call that a day can have, so that
        // tunes of one day keep their order on all later days.
        private int lastTurn = NONE;

        void learn(int newOccasions, int newMonths) {
            occasions = newOccasions;
            months = newMonths;
        }

        boolean fits(int occasion, int month) {
            return hasBit(occasions, occasion) && hasBit(months, month);
        }

        int dayHeard() {
            return lastTurn == NONE ? NONE : lastTurn / CALLS;
        }
    }

    /** A number among the calls of a day, with the call that bears it if there is one. */
    private static final class Call {
        static final int ORDER = 0;
        static final int FROM = 1;
        static final int LENGTH = 2;
        static final int PLACE = 3;
        static final int OCCASION = 4;
        static final int ONE = 5;
        static final int TWO = 6;
        static final int FEE = 7;
        static final int FACTS = 8;
        static final int TOWN = 0;
        static final int LAST_ORDER = 3;

        private static final int QUARTERS = 96;
        private static final int[] LEAST = {TOWN, 0, 1, 0, 0, 0, NONE, 0};
        private static final int[] MOST = {LAST_ORDER, QUARTERS - 1, 24, 9, 5, 4, 4, 9999};

        private final int[] facts = new int[FACTS];
        private boolean there = false;

        static boolean canBe(int[] asked) {
            for (int what = 0; what < FACTS; what++) {
                if (!within(asked[what], LEAST[what], MOST[what])) {
                    return false;
                }
            }
            return asked[FROM] + asked[LENGTH] <= QUARTERS;
        }

        void come(int[] asked) {
            System.arraycopy(asked, 0, facts, 0, FACTS);
            there = true;
        }

        void go() {
            there = false;
        }

        int fact(int what) {
            return within(what, 0, FACTS - 1) ? facts[what] : NONE;
        }

        boolean isOfOrder(int order) {
            return there && facts[ORDER] == order;
        }

        int end() {
            return facts[FROM] + facts[LENGTH];
        }

        boolean isOnAt(int quarter) {
            return quarter >= facts[FROM] && quarter < end();
        }

        int partCount() {
            return facts[TWO] == NONE ? 1 : 2;
        }

        int partsWith(int instrument) {
            return (facts[ONE] == instrument ? 1 : 0) + (facts[TWO] == instrument ? 1 : 0);
        }

        // Which of the two is the later one need not be asked: the earlier one always begins before
        // the later one's end, so that half of the test holds by itself. A call clashes with itself,
        // which is right: nobody has both its parts.
        boolean clashesWith(Call other, int quartersOfAStep) {
            int way = quartersOfAStep * Math.abs(facts[PLACE] - other.facts[PLACE]);
            return facts[FROM] < other.end() + way && other.facts[FROM] < end() + way;
        }
    }

    /** Which calls of the day are played, by whom and with which tunes. */
    private static final class Plan {
        private final Cast cast = new Cast();
        private final int[] chosenTunes = new int[CALLS];
        private final int[] lastTurns = new int[TUNES];
        private int bits = 0;

        int playedBits() {
            return bits;
        }

        boolean has(int c) {
            return within(c, 0, CALLS - 1) && hasBit(bits, c);
        }

        int piperOf(int c, int k) {
            return cast.piperOf(c, k);
        }

        int tuneOf(int c) {
            return has(c) ? chosenTunes[c] : NONE;
        }

        int partsOf(int p) {
            return cast.partsOf(p);
        }

        void castCalls(Call[] calls, Piper[] pipers, int[] pieces, int quartersOfAStep) {
            cast.clear();
            bits = 0;
            for (int order = Call.TOWN; order <= Call.LAST_ORDER; order++) {
                for (int c = 0; c < CALLS; c++) {
                    if (calls[c].isOfOrder(order) && hasPieces(calls, pieces, c)
                            && cast.admit(calls, c, pipers, quartersOfAStep)) {
                        bits |= 1 << c;
                    }
                }
            }
            cast.lowerAll();
        }

        // What is in use grows only where a call begins, so no other quarter need be looked at.
        private boolean hasPieces(Call[] calls, int[] pieces, int c) {
            int together = bits | 1 << c;
            for (int d = 0; d < CALLS; d++) {
                if (hasBit(together, d) && !hasPiecesAt(calls, pieces, together, calls[d].fact(Call.FROM))) {
                    return false;
                }
            }
            return true;
        }

        private static boolean hasPiecesAt(Call[] calls, int[] pieces, int together, int quarter) {
            for (int i = 0; i < INSTRUMENTS; i++) {
                int used = 0;
                for (int c = 0; c < CALLS; c++) {
                    if (hasBit(together, c) && calls[c].isOnAt(quarter)) {
                        used += calls[c].partsWith(i);
                    }
                }
                if (used > pieces[i]) {
                    return false;
                }
            }
            return true;
        }

        void chooseTunes(Call[] calls, Tune[] tunes, int month, int firstTurn) {
            for (int t = 0; t < TUNES; t++) {
                lastTurns[t] = tunes[t].lastTurn;
            }
            int turn = firstTurn;
            for (int order = Call.TOWN; order <= Call.LAST_ORDER; order++) {
                for (int c = 0; c < CALLS; c++) {
                    if (has(c) && calls[c].isOfOrder(order)) {
                        chosenTunes[c] = longestUnheard(tunes, calls[c].fact(Call.OCCASION), month);
                        takeTurn(chosenTunes[c], turn);
                        turn++;
                    }
                }
            }
        }

        private void takeTurn(int t, int turn) {
            if (within(t, 0, TUNES - 1)) {
                lastTurns[t] = turn;
            }
        }

        void hearTunes(Tune[] tunes) {
            for (int t = 0; t < TUNES; t++) {
                tunes[t].lastTurn = lastTurns[t];
            }
        }

        private int longestUnheard(Tune[] tunes, int occasion, int month) {
            int best = NONE;
            for (int t = 0; t < TUNES; t++) {
                if (tunes[t].fits(occasion, month) && (best == NONE || lastTurns[t] < lastTurns[best])) {
                    best = t;
                }
            }
            return best;
        }
    }

    /** Who has which part: parts stand in the order in which their calls were admitted. */
    private static final class Cast {
        private static final int PARTS = 2 * CALLS;

        // For each piper the parts, as bits, that are still open to that one.
        private final int[] openTo = new int[PIPERS];
        // For each part the parts, as bits, that its piper can't have too; itself is one.
        private final int[] bars = new int[PARTS];
        private final int[] callOf = new int[PARTS];
        private final int[] piperFor = new int[PARTS];
        private int partCount = 0;

        void clear() {
            partCount = 0;
            Arrays.fill(openTo, 0);
        }

        int piperOf(int c, int k) {
            int ahead = k;
            for (int part = 0; part < partCount && ahead >= 0; part++) {
                if (callOf[part] == c) {
                    if (ahead == 0) {
                        return piperFor[part];
                    }
                    ahead--;
                }
            }
            return NONE;
        }

        int partsOf(int p) {
            int count = 0;
            for (int part = 0; part < partCount; part++) {
                if (piperFor[part] == p) {
                    count++;
                }
            }
            return count;
        }

        /** Whether the call's parts can be filled beside those that are here; only then they stay. */
        boolean admit(Call[] calls, int c, Piper[] pipers, int quartersOfAStep) {
            int before = partCount;
            for (int k = 0; k < calls[c].partCount() && partCount < PARTS; k++) {
                markTakers(pipers, calls[c].fact(Call.ONE + k));
                markBars(calls, c, quartersOfAStep);
                partCount++;
            }
            if (canFill(tiedTo(before, allParts()), 0)) {
                return true;
            }
            partCount = before;
            for (int p = 0; p < PIPERS; p++) {
                openTo[p] &= allParts();
            }
            return false;
        }

        private int allParts() {
            return (1 << partCount) - 1;
        }

        private void markTakers(Piper[] pipers, int instrument) {
            for (int p = 0; p < PIPERS; p++) {
                if (pipers[p].canPlay(instrument)) {
                    openTo[p] |= 1 << partCount;
                }
            }
        }

        private void markBars(Call[] calls, int c, int quartersOfAStep) {
            int part = partCount;
            callOf[part] = c;
            bars[part] = 1 << part;
            for (int other = 0; other < part; other++) {
                int d = callOf[other];
                bars[other] &= ~(1 << part);
                if (within(d, 0, CALLS - 1) && calls[c].clashesWith(calls[d], quartersOfAStep)) {
                    bars[other] |= 1 << part;
                    bars[part] |= 1 << other;
                }
            }
        }

        /** From any row that fills the parts to the least one. */
        void lowerAll() {
            int left = allParts();
            for (int part = 0; part < partCount; part++) {
                int tied = tiedTo(part, left);
                int known = piperFor[part];
                boolean lowered = false;
                for (int p = 0; p < PIPERS && p < known && !lowered; p++) {
                    lowered = isWorthTrying(p, part, tied) && canGive(part, p, tied, part);
                }
                close(piperFor[part], bars[part]);
                left &= ~(1 << part);
            }
        }

        private void close(int p, int parts) {
            if (within(p, 0, PIPERS - 1)) {
                openTo[p] &= ~parts;
            }
        }

        // Parts that no chain of bars ties to a part don't feel who has it, so they need not be tried anew.
        private int tiedTo(int part, int left) {
            int tied = 1 << part;
            int before = 0;
            for (int round = 0; round < PARTS && tied != before; round++) {
                before = tied;
                for (int other = 0; other < partCount; other++) {
                    if (hasBit(tied, other)) {
                        tied |= bars[other] & left;
                    }
                }
            }
            return tied;
        }

        // The part with the fewest takers goes first: to go by the row would try the same
        // hopeless end again behind each of the many ways to begin.
        private boolean canFill(int left, int depth) {
            if (left == 0) {
                return true;
            }
            int part = hardestOf(left);
            for (int p = 0; p < PIPERS; p++) {
                if (isWorthTrying(p, part, left) && canGive(part, p, left, depth)) {
                    return true;
                }
            }
            return false;
        }

        // A row is noted only on the way back from its end, so one that fails leaves the known one whole.
        private boolean canGive(int part, int p, int left, int depth) {
            if (depth >= PARTS) {
                return false;
            }
            int before = openTo[p];
            openTo[p] = before & ~bars[part];
            boolean filled = canFill(left & ~(1 << part), depth + 1);
            openTo[p] = before;
            if (filled) {
                piperFor[part] = p;
            }
            return filled;
        }

        // Where one of two pipers to whom the same is open has failed, the other one would fail too.
        private boolean isWorthTrying(int p, int part, int left) {
            for (int q = 0; q < p; q++) {
                if ((openTo[q] & left) == (openTo[p] & left)) {
                    return false;
                }
            }
            return hasBit(openTo[p], part);
        }

        private int hardestOf(int left) {
            int hardest = 0;
            int fewest = PIPERS + 1;
            int mostBars = 0;
            for (int part = 0; part < partCount; part++) {
                if (hasBit(left, part)) {
                    int takers = takersOf(part);
                    int barred = Integer.bitCount(bars[part] & left);
                    if (takers < fewest || takers == fewest && barred > mostBars) {
                        hardest = part;
                        fewest = takers;
                        mostBars = barred;
                    }
                }
            }
            return hardest;
        }

        private int takersOf(int part) {
            int takers = 0;
            for (int p = 0; p < PIPERS; p++) {
                takers += openTo[p] >> part & 1;
            }
            return takers;
        }
    }
}
