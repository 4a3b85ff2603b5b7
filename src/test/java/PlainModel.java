import java.util.ArrayList;
import java.util.Arrays;
import java.util.Comparator;
import java.util.List;
import java.util.regex.Matcher;
import java.util.regex.Pattern;

/** The document once more, told as plainly as can be and without a care for speed, to compare with. */
final class PlainModel {
    private static final int NONE = -1;
    private static final Pattern CLAUSE = Pattern.compile("([wfpg])([0-9]{1,4})");

    private record Played(int call, List<Integer> pipers, int tune) {
    }

    private final List<int[]> pipers = new ArrayList<>(); // rank, plays, state, wages
    private final int[][] calls = new int[6][];
    private final List<int[]> tunes = new ArrayList<>(); // occasions, months, day heard
    private final int[] pieces = {1, 1, 1, 1, 1};
    private final List<Integer> heard = new ArrayList<>(); // tunes, the one heard longest ago first
    private String tape = "";
    private int[] word = {1, 10, 100, 50};
    private int day = 0;
    private int fund = 0;

    int feed(int... five) {
        if (tape.length() + 20 > 40) {
            return NONE;
        }
        for (int four : five) {
            for (int shift : new int[] {24, 16, 8, 0}) {
                tape += (char) (four >>> shift & 255);
            }
        }
        return tape.length();
    }

    int word(int n) {
        if (n < 0 || n > tape.length()) {
            return NONE;
        }
        String text = tape.substring(0, n);
        tape = "";
        int[] told = {1, 10, 100, 50};
        int[] most = {20, 100, 9999, 9999};
        int at = 0;
        while (true) {
            Matcher clause = CLAUSE.matcher(text).region(at, n);
            if (!clause.lookingAt()) {
                return at < n && "wfpg".indexOf(text.charAt(at)) >= 0 ? 200 + at + 1 : 100 + at;
            }
            int end = clause.end();
            if (end < n && text.charAt(end) >= '0' && text.charAt(end) <= '9') {
                return 300 + end;
            }
            int kind = "wfpg".indexOf(clause.group(1));
            told[kind] = Integer.parseInt(clause.group(2));
            if (told[kind] > most[kind]) {
                return 400 + at + 1;
            }
            if (end == n) {
                word = told;
                return 0;
            }
            if (text.charAt(end) != ';') {
                return 500 + end;
            }
            at = end + 1;
        }
    }

    int piper(int rank, int plays) {
        if (rank < 1 || rank > 9 || plays < 1 || plays > 31 || pipers.size() == 6) {
            return NONE;
        }
        pipers.add(new int[] {rank, plays, 0, 0});
        return pipers.size() - 1;
    }

    private boolean isPiper(int p) {
        return p >= 0 && p < pipers.size();
    }

    boolean ill(int p, boolean is) {
        if (!isPiper(p) || pipers.get(p)[2] == 2 || pipers.get(p)[2] == (is ? 1 : 0)) {
            return false;
        }
        pipers.get(p)[2] = is ? 1 : 0;
        return true;
    }

    boolean old(int p) {
        if (!isPiper(p) || pipers.get(p)[2] == 2) {
            return false;
        }
        pipers.get(p)[2] = 2;
        return true;
    }

    boolean pieces(int i, int n) {
        if (i < 0 || i > 4 || n < 0 || n > 3) {
            return false;
        }
        pieces[i] = n;
        return true;
    }

    int call(int... f) {
        boolean right = f[0] >= 0 && f[0] <= 3 && f[1] >= 0 && f[1] <= 95 && f[2] >= 1 && f[2] <= 24
            && f[1] + f[2] <= 96 && f[3] >= 0 && f[3] <= 9 && f[4] >= 0 && f[4] <= 5
            && f[5] >= 0 && f[5] <= 4 && f[6] >= -1 && f[6] <= 4 && f[7] >= 0 && f[7] <= 9999;
        int free = Arrays.asList(calls).indexOf(null);
        if (!right || free < 0) {
            return NONE;
        }
        calls[free] = f.clone();
        return free;
    }

    private boolean isCall(int c) {
        return c >= 0 && c < 6 && calls[c] != null;
    }

    boolean off(int c) {
        if (!isCall(c)) {
            return false;
        }
        calls[c] = null;
        return true;
    }

    private List<Integer> gone() {
        List<Integer> order = new ArrayList<>();
        for (int c = 0; c < 6; c++) {
            if (calls[c] != null) {
                order.add(c);
            }
        }
        order.sort(Comparator.comparing(c -> calls[c][0] * 10 + c));
        return order;
    }

    private boolean enoughPieces(List<Integer> together) {
        for (int quarter = 0; quarter < 96; quarter++) {
            int[] used = new int[5];
            for (int c : together) {
                int[] f = calls[c];
                if (f[1] <= quarter && quarter < f[1] + f[2]) {
                    used[f[5]]++;
                    if (f[6] != NONE) {
                        used[f[6]]++;
                    }
                }
            }
            for (int i = 0; i < 5; i++) {
                if (used[i] > pieces[i]) {
                    return false;
                }
            }
        }
        return true;
    }

    private boolean oneCanDoBoth(int c, int d) {
        if (c == d) {
            return false;
        }
        boolean cIsLater = calls[c][1] > calls[d][1] || calls[c][1] == calls[d][1] && c > d;
        int[] later = calls[cIsLater ? c : d];
        int[] earlier = calls[cIsLater ? d : c];
        return later[1] >= earlier[1] + earlier[2] + word[0] * Math.abs(later[3] - earlier[3]);
    }

    /** The first way, by the row, to give the parts from the given one on pipers; null if there is none. */
    private int[] firstWay(List<int[]> parts, int[] row, int at) {
        if (at == parts.size()) {
            return row;
        }
        for (int p = 0; p < pipers.size(); p++) {
            boolean can = pipers.get(p)[2] == 0 && (pipers.get(p)[1] >> parts.get(at)[1] & 1) == 1;
            for (int b = 0; b < at && can; b++) {
                can = row[b] != p || oneCanDoBoth(parts.get(at)[0], parts.get(b)[0]);
            }
            if (can) {
                row[at] = p;
                int[] way = firstWay(parts, row, at + 1);
                if (way != null) {
                    return way;
                }
            }
        }
        return null;
    }

    private List<Played> plan() {
        List<Integer> together = new ArrayList<>();
        List<int[]> parts = new ArrayList<>();
        int[] row = {};
        for (int c : gone()) {
            List<Integer> more = new ArrayList<>(together);
            more.add(c);
            List<int[]> moreParts = new ArrayList<>(parts);
            for (int k = 5; k <= 6; k++) {
                if (calls[c][k] != NONE) {
                    moreParts.add(new int[] {c, calls[c][k]});
                }
            }
            int[] way = enoughPieces(more) ? firstWay(moreParts, new int[moreParts.size()], 0) : null;
            if (way != null) {
                together = more;
                parts = moreParts;
                row = way;
            }
        }
        List<Played> all = new ArrayList<>();
        List<Integer> heardByThen = new ArrayList<>(heard);
        for (int c : together) {
            List<Integer> who = new ArrayList<>();
            for (int k = 0; k < parts.size(); k++) {
                if (parts.get(k)[0] == c) {
                    who.add(row[k]);
                }
            }
            int tune = chosen(calls[c][4], heardByThen);
            hear(tune, heardByThen);
            all.add(new Played(c, who, tune));
        }
        return all;
    }

    private static void hear(int tune, List<Integer> heard) {
        if (tune != NONE) {
            heard.remove((Integer) tune);
            heard.add(tune);
        }
    }

    private int chosen(int occasion, List<Integer> heardByThen) {
        List<Integer> fitting = new ArrayList<>();
        for (int t = 0; t < tunes.size(); t++) {
            if ((tunes.get(t)[0] >> occasion & 1) == 1 && (tunes.get(t)[1] >> day / 30 % 12 & 1) == 1) {
                fitting.add(t);
            }
        }
        fitting.sort(Comparator.<Integer, Integer>comparing(t -> heardByThen.indexOf(t)).thenComparing(t -> t));
        return fitting.isEmpty() ? NONE : fitting.get(0);
    }

    private Played find(int c) {
        for (Played one : plan()) {
            if (one.call == c) {
                return one;
            }
        }
        return null;
    }

    int played() {
        int bits = 0;
        for (Played one : plan()) {
            bits |= 1 << one.call;
        }
        return bits;
    }

    int who(int c, int k) {
        Played one = find(c);
        return one == null || k < 0 || k >= one.pipers.size() ? NONE : one.pipers.get(k);
    }

    int tune(int occasions, int months) {
        if (occasions < 0 || occasions > 63 || months < 0 || months > 4095 || tunes.size() == 10) {
            return NONE;
        }
        tunes.add(new int[] {occasions, months, NONE});
        return tunes.size() - 1;
    }

    int heard(int c) {
        Played one = find(c);
        return one == null ? NONE : one.tune;
    }

    int share(int c, int p) {
        Played one = find(c);
        if (one == null || p != NONE && !isPiper(p)) {
            return NONE;
        }
        return shareOf(one, p);
    }

    private int shareOf(Played one, int p) {
        int fee = calls[one.call][7];
        int forFund = fee * word[1] / 100;
        if (p == NONE) {
            return forFund;
        }
        int ranks = 0;
        for (int q : one.pipers) {
            ranks += pipers.get(q)[0];
        }
        int[] due = new int[6];
        int left = fee - forFund;
        List<Integer> byRest = new ArrayList<>(one.pipers);
        for (int q : one.pipers) {
            due[q] = (fee - forFund) * pipers.get(q)[0] / ranks;
            left -= due[q];
        }
        int all = ranks;
        byRest.sort(Comparator.<Integer, Integer>comparing(q -> -((fee - forFund) * pipers.get(q)[0] % all))
            .thenComparing(q -> q));
        due[byRest.get(0)] += left;
        return due[p];
    }

    int day() {
        if (day == 9999) {
            return NONE;
        }
        List<Played> plan = plan();
        int playedBits = played();
        for (Played one : plan) {
            for (int p = 0; p < pipers.size(); p++) {
                pipers.get(p)[3] += shareOf(one, p);
            }
            fund += shareOf(one, NONE);
            if (one.tune != NONE) {
                tunes.get(one.tune)[2] = day;
            }
            hear(one.tune, heard);
        }
        for (int c = 0; c < 6; c++) {
            for (int[] piper : pipers) {
                if (calls[c] != null && calls[c][0] == 0 && (playedBits >> c & 1) == 0 && piper[2] == 0) {
                    piper[3] -= word[3];
                    fund += word[3];
                }
            }
        }
        Arrays.fill(calls, null);
        day++;
        for (int[] piper : pipers) {
            if (day % 360 == 0 && piper[2] == 2) {
                int paid = Math.min(word[2], fund);
                piper[3] += paid;
                fund -= paid;
            }
        }
        return day;
    }

    int lasts() {
        int left = fund;
        for (int year = 0; year < 9999; year++) {
            for (int[] piper : pipers) {
                left -= piper[2] == 2 ? word[2] : 0;
            }
            if (left < 0) {
                return year;
            }
        }
        return 9999;
    }

    int look(int p, int what) {
        if (!isPiper(p) || what < 0 || what > 3) {
            return NONE;
        }
        if (what < 3) {
            return pipers.get(p)[what];
        }
        int parts = 0;
        for (Played one : plan()) {
            parts += one.pipers.contains(p) ? 1 : 0;
        }
        return parts;
    }

    int wages(int p) {
        return p == NONE ? fund : isPiper(p) ? pipers.get(p)[3] : 0;
    }

    int about(int c, int what) {
        return isCall(c) && what >= 0 && what < 8 ? calls[c][what] : NONE;
    }

    int count(int what) {
        int[] plain = {day, day / 30 % 12, pipers.size(), gone().size(), tunes.size(), tape.length()};
        if (what >= 0 && what <= 5) {
            return plain[what];
        }
        if (what >= 10 && what <= 13) {
            return word[what - 10];
        }
        if (what >= 20 && what <= 24) {
            return pieces[what - 20];
        }
        return what >= 30 && what < 30 + tunes.size() ? tunes.get(what - 30)[2] : NONE;
    }
}
