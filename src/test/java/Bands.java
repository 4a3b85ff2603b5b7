/** Bands and calls as many tests need them. */
final class Bands {
    private static final int NONE = TowerPipers.NONE;

    private Bands() {
    }

    /** Pipers of rank 1 that play the given instruments, and as many pieces as there can be. */
    static TowerPipers of(int... plays) {
        TowerPipers x = new TowerPipers();
        for (int instruments : plays) {
            x.piper(1, instruments);
        }
        for (int i = 0; i < 5; i++) {
            x.pieces(i, 3);
        }
        return x;
    }

    /** A call of one part, at place 0, of occasion 0, for 100 pence. */
    static int simple(TowerPipers x, int order, int from, int length, int one) {
        return x.call(order, from, length, 0, 0, one, NONE, 100);
    }

    /** A call of one part on instrument 0 alone, as piper 0 of most bands can play it, for a fee. */
    static int paid(TowerPipers x, int from, int fee) {
        return x.call(1, from, 1, 0, 0, 0, NONE, fee);
    }

    /** A call of one part on instrument 0 for an occasion. */
    static int occasion(TowerPipers x, int order, int from, int occasion) {
        return x.call(order, from, 1, 0, occasion, 0, NONE, 0);
    }

    static int call(TowerPipers x, int[] f) {
        return x.call(f[0], f[1], f[2], f[3], f[4], f[5], f[6], f[7]);
    }

    static void days(TowerPipers x, int days) {
        for (int d = 0; d < days; d++) {
            x.day();
        }
    }

    /** All that can be asked of a band, then what its tape and its day bring: some 220 calls. */
    static String picture(TowerPipers x) {
        StringBuilder all = new StringBuilder();
        addCounts(x, all);
        addCalls(x, all);
        addPipers(x, all);
        all.append("tape ").append(x.word(x.count(5))).append(" day ").append(x.day()).append(' ');
        addCounts(x, all);
        addPipers(x, all);
        return all.toString();
    }

    private static void addCounts(TowerPipers x, StringBuilder all) {
        all.append("counts");
        for (int what = 0; what < 40; what++) {
            if (what < 6 || what >= 10 && what < 14 || what >= 20 && what < 25 || what >= 30) {
                all.append(' ').append(x.count(what));
            }
        }
        all.append(" lasts ").append(x.lasts()).append(" played ").append(x.played()).append('\n');
    }

    private static void addCalls(TowerPipers x, StringBuilder all) {
        for (int c = 0; c < 6; c++) {
            all.append("call");
            for (int what = 0; what < 8; what++) {
                all.append(' ').append(x.about(c, what));
            }
            all.append(" who ").append(x.who(c, 0)).append(' ').append(x.who(c, 1));
            all.append(" tune ").append(x.heard(c)).append(" shares");
            for (int p = NONE; p < 6; p++) {
                all.append(' ').append(x.share(c, p));
            }
            all.append('\n');
        }
    }

    private static void addPipers(TowerPipers x, StringBuilder all) {
        for (int p = 0; p < 6; p++) {
            all.append("piper");
            for (int what = 0; what < 4; what++) {
                all.append(' ').append(x.look(p, what));
            }
            all.append(" wages ").append(x.wages(p)).append('\n');
        }
        all.append("fund ").append(x.wages(NONE)).append('\n');
    }
}
