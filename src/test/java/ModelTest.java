import java.nio.charset.StandardCharsets;
import java.util.Random;

/** Runs of chance calls, the same each time, whose answers are compared with the plain model's. */
public final class ModelTest {
    private static final int RUNS = 3000;
    private static final int CALLS_OF_A_RUN = 400;
    private static final int CROWDED_DAYS = 3000;
    private static final int YEARS = 200;
    private static final String[] PIECES_OF_WORDS = {"w", "f", "p", "g", "0", "1", "9", "20", "21", "100", "101",
        "9999", ";", ";w1", ";f0", "w0", "w3", "g7;", "p12;", "x", " ", "f50"};

    private final Random chance;
    private final TowerPipers band = new TowerPipers();
    private final PlainModel model = new PlainModel();
    private final String run;
    private final int crowd;

    private ModelTest(long seed) {
        chance = new Random(seed);
        run = "run " + seed + ": ";
        crowd = 4 + chance.nextInt(40);
    }

    public static void main(String[] args) {
        for (int seed = 0; seed < RUNS; seed++) {
            ModelTest one = new ModelTest(seed);
            for (int k = 0; k < CALLS_OF_A_RUN; k++) {
                one.step();
            }
        }
        for (int seed = 0; seed < CROWDED_DAYS; seed++) {
            new ModelTest(-1 - seed).crowdedDay();
        }
        for (int seed = 0; seed < YEARS; seed++) {
            new ModelTest(RUNS + seed).year();
        }
        Due.end();
    }

    /** Six pipers and six calls close to one another: who plays what is hard to find. */
    private void crowdedDay() {
        for (int k = 0; k < 6; k++) {
            int rank = near(1, 9);
            int plays = near(1, 31) | near(1, 31);
            is("piper", model.piper(rank, plays), band.piper(rank, plays));
        }
        for (int i = 0; i < 5; i++) {
            int n = chance.nextInt(8) == 0 ? 1 : 2 + chance.nextInt(2);
            is("pieces", model.pieces(i, n), band.pieces(i, n));
        }
        for (int k = 0; k < 6; k++) {
            stepOfNewCall();
        }
        is("played", model.played(), band.played());
        for (int c = 0; c < 6; c++) {
            is("who " + c + " 0", model.who(c, 0), band.who(c, 0));
            is("who " + c + " 1", model.who(c, 1), band.who(c, 1));
        }
    }

    /** A year with a chance call now and then, so that all months come, and the pay of the old. */
    private void year() {
        int calls = 0;
        while (model.count(0) < 360) {
            if (chance.nextInt(4) == 0 && calls < 140) {
                step();
                calls++;
            } else {
                is("day", model.day(), band.day());
            }
        }
        for (int p = -1; p < 6; p++) {
            is("wages " + p, model.wages(p), band.wages(p));
        }
        is("lasts", model.lasts(), band.lasts());
        for (int t = 30; t < 40; t++) {
            is("count " + t, model.count(t), band.count(t));
        }
    }

    /** A number of the range, at times one beside it. */
    private int near(int least, int most) {
        if (chance.nextInt(60) == 0) {
            int[] wrong = {least - 1, most + 1, Integer.MIN_VALUE, Integer.MAX_VALUE};
            return wrong[chance.nextInt(4)];
        }
        return least + chance.nextInt(most - least + 1);
    }

    private void is(String what, int due, int got) {
        Due.is(run + what, due, got);
    }

    private void is(String what, boolean due, boolean got) {
        Due.is(run + what, due ? 1 : 0, got ? 1 : 0);
    }

    private void step() {
        int kind = chance.nextInt(60);
        if (kind < 14) {
            stepOfCalls();
        } else if (kind < 22) {
            stepOfPipers();
        } else if (kind < 24) {
            stepOfWords();
        } else if (kind < 26) {
            int occasions = chance.nextInt(3) == 0 ? 63 : near(0, 63);
            int months = chance.nextInt(3) == 0 ? near(0, 4095) : 4095;
            is("tune", model.tune(occasions, months), band.tune(occasions, months));
        } else if (kind < 28) {
            is("day", model.day(), band.day());
        } else {
            stepOfQuestions(kind);
        }
    }

    private void stepOfCalls() {
        if (chance.nextInt(5) == 0) {
            int c = near(0, 5);
            is("off " + c, model.off(c), band.off(c));
        } else {
            stepOfNewCall();
        }
    }

    private void stepOfNewCall() {
        int order = near(0, 3);
        int length = near(1, 24);
        int from = near(0, Math.min(crowd, 95));
        int place = near(0, 9);
        int occasion = near(0, 5);
        int one = near(0, 4);
        int two = near(-1, 4);
        int fee = near(0, 9999);
        is("call", model.call(order, from, length, place, occasion, one, two, fee),
            band.call(order, from, length, place, occasion, one, two, fee));
    }

    private void stepOfPipers() {
        int p = near(0, 5);
        switch (chance.nextInt(8)) {
            case 0, 1, 2:
                int rank = near(1, 9);
                int plays = near(1, 31) | (chance.nextBoolean() ? near(1, 31) : 0);
                is("piper", model.piper(rank, plays), band.piper(rank, plays));
                break;
            case 3, 4:
                boolean is = chance.nextInt(3) == 0;
                is("ill " + p, model.ill(p, is), band.ill(p, is));
                break;
            case 5:
                if (chance.nextInt(6) == 0) {
                    is("old " + p, model.old(p), band.old(p));
                }
                break;
            default:
                int i = near(0, 4);
                int n = near(0, 3);
                is("pieces " + i, model.pieces(i, n), band.pieces(i, n));
                break;
        }
    }

    private void stepOfWords() {
        StringBuilder text = new StringBuilder();
        int most = chance.nextInt(9);
        for (int k = 0; k < most; k++) {
            text.append(PIECES_OF_WORDS[chance.nextInt(PIECES_OF_WORDS.length)]);
        }
        int n = Math.min(40, text.length());
        text.append(" ".repeat(40));
        byte[] bytes = text.toString().getBytes(StandardCharsets.ISO_8859_1);
        int[] ints = new int[10];
        for (int k = 0; k < 40; k++) {
            ints[k / 4] = ints[k / 4] << 8 | bytes[k];
        }
        for (int k = 0; k < (n > 20 || chance.nextInt(5) == 0 ? 10 : 5); k += 5) {
            is("feed", model.feed(ints[k], ints[k + 1], ints[k + 2], ints[k + 3], ints[k + 4]),
                band.feed(ints[k], ints[k + 1], ints[k + 2], ints[k + 3], ints[k + 4]));
        }
        if (chance.nextInt(6) != 0) {
            int asked = chance.nextInt(8) == 0 ? near(0, 40) : n;
            is("word " + text, model.word(asked), band.word(asked));
        }
    }

    private void stepOfQuestions(int kind) {
        int p = near(-1, 5);
        int c = near(0, 5);
        switch (kind) {
            case 28, 29, 30, 31, 32, 33:
                is("played", model.played(), band.played());
                break;
            case 34, 35, 36, 37:
                is("heard " + c, model.heard(c), band.heard(c));
                break;
            case 38, 39, 40, 41:
                is("share " + c + " " + p, model.share(c, p), band.share(c, p));
                break;
            case 42, 43:
                is("lasts", model.lasts(), band.lasts());
                break;
            case 44, 45, 46:
                int thing = near(0, 3);
                is("look " + p + " " + thing, model.look(p, thing), band.look(p, thing));
                break;
            case 47, 48, 49:
                is("wages " + p, model.wages(p), band.wages(p));
                break;
            case 50, 51:
                int fact = near(0, 7);
                is("about " + c + " " + fact, model.about(c, fact), band.about(c, fact));
                break;
            case 52, 53, 54:
                int what = near(0, 40);
                is("count " + what, model.count(what), band.count(what));
                break;
            default:
                int k = near(0, 1);
                is("who " + c + " " + k, model.who(c, k), band.who(c, k));
                break;
        }
    }
}
