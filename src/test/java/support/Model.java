import java.util.ArrayDeque;
import java.util.ArrayList;
import java.util.Arrays;
import java.util.List;

/**
 * The document once more, written apart from WhiteLine and as slowly as it likes: it tries out what
 * the class reckons, so that the two can be held against each other.
 */
final class Model {
    private static final int NONE = -1;

    State now = new State();
    State kept = null;
    ModelLaw law = new ModelLaw("");
    final List<Integer> tape = new ArrayList<>();

    /** What is KEPT. */
    static final class State {
        int n = 16;
        int[][] rows = new int[3][64];
        Integer[] old = new Integer[64];
        Integer[] line = new Integer[64];
        int[] end = new int[64];
        int[] d = new int[64];
        Integer[] spoilt = new Integer[64];
        boolean[] works = new boolean[2];
        Integer[] paints = new Integer[2];
        int[] left = new int[2];
        int[] offset = new int[2];
        int[][] cars = new int[12][];
        int cones = 64;
        Integer dew = null;
        int minute = 0;
        int last = 9999;

        State copy() {
            State s = new State();
            s.n = n;
            s.rows = new int[][] {rows[0].clone(), rows[1].clone(), rows[2].clone()};
            s.old = old.clone();
            s.line = line.clone();
            s.end = end.clone();
            s.d = d.clone();
            s.spoilt = spoilt.clone();
            s.works = works.clone();
            s.paints = paints.clone();
            s.left = left.clone();
            s.offset = offset.clone();
            s.cars = cars.clone();
            s.cones = cones;
            s.dew = dew;
            s.minute = minute;
            s.last = last;
            return s;
        }

        void bare(int i) {
            line[i] = null;
            spoilt[i] = null;
            for (int a = 0; a < 2; a++) {
                if (paints[a] != null && paints[a] == i) {
                    paints[a] = null;
                }
            }
        }

        boolean beingPainted(int i) {
            return paints[0] != null && paints[0] == i || paints[1] != null && paints[1] == i;
        }

        boolean wet(int i) {
            return line[i] != null && (end[i] > minute || minute < end[i] + d[i]);
        }

        int busy() {
            int all = 0;
            for (int i = 0; i < n; i++) {
                all += beingPainted(i) || wet(i) ? 1 : 0;
            }
            return all;
        }

        int painted() {
            int all = 0;
            for (int i = 0; i < n; i++) {
                all += line[i] != null ? 1 : 0;
            }
            return all;
        }

        int spoiltAll() {
            int all = 0;
            for (int i = 0; i < n; i++) {
                all += spoilt[i] != null ? 1 : 0;
            }
            return all;
        }

        int wetAll() {
            int all = 0;
            for (int i = 0; i < n; i++) {
                all += wet(i) ? 1 : 0;
            }
            return all;
        }

        void begin(ModelLaw law) {
            for (int a = 0; a < 2; a++) {
                if (!works[a] || paints[a] != null) {
                    continue;
                }
                List<Integer> free = new ArrayList<>();
                for (int i = 0; i < n; i++) {
                    if (line[i] == null && !beingPainted(i)) {
                        free.add(i);
                    }
                }
                if (free.isEmpty()) {
                    works[a] = false;
                } else if (busy() < cones) {
                    paints[a] = free.get(a == 0 ? 0 : free.size() - 1);
                    left[a] = law.ask('p', this, paints[a], minute, a, 0);
                }
            }
        }

        void paint(ModelLaw law) {
            for (int a = 0; a < 2; a++) {
                if (paints[a] != null && --left[a] == 0) {
                    int i = paints[a];
                    paints[a] = null;
                    line[i] = Math.min(99, Math.max(-99, rows[0][i] + offset[a]));
                    end[i] = minute + 1;
                    d[i] = law.ask('d', this, i, minute + 1, a, 0);
                }
            }
        }

        /** Answers how many DOTS are being painted or wet once those that begin have begun. */
        int goBy(ModelLaw law) {
            begin(law);
            int busy = busy();
            paint(law);
            for (int c = 0; c < 12; c++) {
                if (cars[c] == null || minute < cars[c][1] || minute >= cars[c][1] + n) {
                    continue;
                }
                int gone = minute - cars[c][1];
                int i = cars[c][0] == 0 ? gone : n - 1 - gone;
                if ((wet(i) || beingPainted(i)) && spoilt[i] == null) {
                    spoilt[i] = c;
                }
            }
            for (int i = 0; i < n; i++) {
                if (dew != null && dew == minute && wet(i) && spoilt[i] == null) {
                    spoilt[i] = 12;
                }
            }
            minute++;
            return busy;
        }

        void goBy(ModelLaw law, int minutes) {
            for (int k = 0; k < minutes && minute < last; k++) {
                goBy(law);
            }
        }

        /** The same road as if it were bare, without CARS and DEW, with CONES enough. */
        State asBare() {
            State s = copy();
            for (int i = 0; i < 64; i++) {
                s.bare(i);
            }
            s.works = new boolean[2];
            s.cars = new int[12][];
            s.dew = null;
            s.cones = 1000;
            return s;
        }
    }

    private boolean in(int x, int a, int b) {
        return x >= a && x <= b;
    }

    private List<Integer> take(int n) {
        List<Integer> taken = new ArrayList<>(tape.subList(0, n));
        tape.clear();
        return taken;
    }

    private static String text(List<Integer> bytes) {
        StringBuilder text = new StringBuilder();
        for (int b : bytes) {
            text.append((char) b);
        }
        return text.toString();
    }

    boolean road(int n) {
        if (!in(n, 8, 64)) {
            return false;
        }
        State s = new State();
        s.n = n;
        s.offset = now.offset;
        s.cars = now.cars;
        s.cones = now.cones;
        s.dew = now.dew;
        s.minute = now.minute;
        now = s;
        return true;
    }

    int row(int kind, int n) {
        if (!in(kind, 0, 2) || !in(n, 1, 120) || n > tape.size()) {
            return NONE;
        }
        String text = text(take(n));
        List<Integer> values = new ArrayList<>();
        int fault = ModelRow.read(text, now.n, kind == 0, values);
        if (fault != 0) {
            return fault;
        }
        int sum = 0;
        for (int i = 0; i < now.n; i++) {
            now.rows[kind][i] = values.get(i);
            sum += Math.abs(values.get(i));
        }
        return sum;
    }

    boolean old(int from, int to, int offset) {
        if (!in(from, 0, now.n - 1) || !in(to, from, now.n - 1) || !in(offset, -100, 99)) {
            return false;
        }
        Arrays.fill(now.old, from, to + 1, offset == -100 ? null : (Integer) offset);
        return true;
    }

    int feed(int a, int b, int c, int d, int e) {
        if (tape.size() + 20 > 260) {
            return NONE;
        }
        for (int word : new int[] {a, b, c, d, e}) {
            tape.add(word >>> 24);
            tape.add(word >>> 16 & 255);
            tape.add(word >>> 8 & 255);
            tape.add(word & 255);
        }
        return tape.size();
    }

    int law(int n) {
        if (!in(n, 1, 240) || n > tape.size()) {
            return NONE;
        }
        String text = text(take(n));
        int answer = ModelLaw.faultOrClauses(text);
        if (answer > 0) {
            law = new ModelLaw(text);
        }
        return answer;
    }

    boolean party(int a, boolean works, int offset) {
        if (!in(a, 0, 1) || !in(offset, -20, 20)) {
            return false;
        }
        if (!works && now.paints[a] != null) {
            now.bare(now.paints[a]);
        }
        now.works[a] = works;
        now.offset = now.offset.clone();
        now.offset[a] = offset;
        return true;
    }

    boolean car(int i, int way, int minute) {
        if (!in(i, 0, 11) || !in(way, 0, 1) || !in(minute, 0, 9999)) {
            return false;
        }
        now.cars = now.cars.clone();
        now.cars[i] = new int[] {way, minute};
        return true;
    }

    boolean cones(int n) {
        if (!in(n, 0, 64)) {
            return false;
        }
        now.cones = n;
        return true;
    }

    boolean dew(int minute) {
        if (!in(minute, -1, 9999)) {
            return false;
        }
        now.dew = minute == -1 ? null : (Integer) minute;
        return true;
    }

    int burns(int from, int to) {
        if (!in(from, 0, now.n - 1) || !in(to, from, now.n - 1)) {
            return NONE;
        }
        int before = now.painted();
        for (int i = from; i <= to; i++) {
            now.bare(i);
        }
        return before - now.painted();
    }

    int minutes(int n) {
        if (!in(n, 1, 600)) {
            return NONE;
        }
        int before = now.painted();
        now.goBy(law, n);
        return now.painted() - before;
    }

    int tried(int n, int what) {
        if (!in(n, 1, 600) || !in(what, 0, 6)) {
            return NONE;
        }
        State s = now.copy();
        s.goBy(law, n);
        int off = 0;
        for (int i = 0; i < s.n; i++) {
            off += s.line[i] == null ? 0 : Math.abs(s.line[i] - s.rows[0][i]);
        }
        int done = s.painted() == s.n && s.wetAll() == 0 ? 1 : 0;
        int first = s.paints[0] == null ? -2 : s.paints[0];
        int second = s.paints[1] == null ? -2 : s.paints[1];
        return new int[] {s.painted(), s.spoiltAll(), s.wetAll(), done, first, second, off}[what];
    }

    int dot(int i, int what) {
        if (!in(i, 0, now.n - 1) || !in(what, 0, 8)) {
            return NONE;
        }
        if (what < 3) {
            return now.rows[what][i];
        }
        switch (what) {
            case 3:
                return now.old[i] == null ? -2 : now.old[i] + 100;
            case 4:
                return now.line[i] == null ? -2 : now.line[i] + 100;
            case 5:
                return now.line[i] == null ? -2 : now.end[i];
            case 6:
                return now.spoilt[i] == null ? -2 : now.spoilt[i];
            case 7:
                return now.wet(i) ? 1 : 0;
            default:
                if (!now.beingPainted(i)) {
                    return -2;
                }
                return now.paints[0] != null && now.paints[0] == i ? 0 : 1;
        }
    }

    int smooth(int g, int what) {
        if (!in(g, 0, 9) || what != 100 && !in(what, 0, now.n - 1)) {
            return NONE;
        }
        // The best row up to a DOT for each offset there: {off, offsets}
        int[][] best = new int[61][];
        for (int x = -30; x <= 30; x++) {
            best[x + 30] = new int[] {Math.abs(x - now.rows[0][0]), x};
        }
        for (int i = 1; i < now.n; i++) {
            int[][] next = new int[61][];
            for (int x = -30; x <= 30; x++) {
                for (int y = Math.max(-30, x - g); y <= Math.min(30, x + g); y++) {
                    int[] row = Arrays.copyOf(best[y + 30], i + 2);
                    row[0] += Math.abs(x - now.rows[0][i]);
                    row[i + 1] = x;
                    if (next[x + 30] == null || Arrays.compare(row, next[x + 30]) < 0) {
                        next[x + 30] = row;
                    }
                }
            }
            best = next;
        }
        int[] least = best[0];
        for (int[] row : best) {
            least = Arrays.compare(row, least) < 0 ? row : least;
        }
        return what == 100 ? least[0] : least[what + 1] + 100;
    }

    /** How far off each DOT is if the line goes straight between these; {the most, all}. */
    private int[] off(List<Integer> told) {
        int[] k = now.rows[0];
        int most = 0;
        int all = 0;
        for (int p = 0; p + 1 < told.size(); p++) {
            int a = told.get(p);
            int b = told.get(p + 1);
            for (int i = a; i <= b; i++) {
                int dividend = (k[b] - k[a]) * (i - a);
                int amount = Math.abs(dividend) / (b - a);
                int at = k[a] + (dividend < 0 ? -amount : amount);
                most = Math.max(most, Math.abs(at - k[i]));
                all += i == b && p + 2 < told.size() ? 0 : Math.abs(at - k[i]);
            }
        }
        return new int[] {most, all};
    }

    int apart(int e, int what) {
        if (!in(e, 0, 99) || !in(what, 0, 1)) {
            return NONE;
        }
        int[] answer = {0, 0};
        for (int m = 1; m <= 16; m++) {
            List<Integer> told = new ArrayList<>();
            for (int i = 0; i < now.n - 1; i += m) {
                told.add(i);
            }
            told.add(now.n - 1);
            if (off(told)[0] <= e) {
                answer = new int[] {m, off(told)[1]};
            }
        }
        return answer[what];
    }

    int seen(int i, int way, int eye) {
        if (!in(i, 0, now.n - 1) || !in(way, 0, 1) || !in(eye, 1, 9)) {
            return NONE;
        }
        int[] h = now.rows[1];
        int step = way == 0 ? 1 : -1;
        int all = 0;
        for (int far = 1; in(i + step * far, 0, now.n - 1); far++) {
            for (int near = 1; near < far; near++) {
                int eyeHeight = h[i] + eye;
                int lineTimesFar = eyeHeight * far + (h[i + step * far] - eyeHeight) * near;
                if (lineTimesFar < h[i + step * near] * far) {
                    return all;
                }
            }
            all++;
        }
        return all;
    }

    private boolean sees(int i, int way, int eye, int enough) {
        int all = seen(i, way, eye);
        return all >= enough || all == (way == 0 ? now.n - 1 - i : i);
    }

    private boolean broken(int i, int way, int eye) {
        return sees(i, way, eye, law.ask('s', now, i, now.minute, 0, 0));
    }

    int marked(int i, int eye) {
        if (!in(i, 0, now.n - 1) || !in(eye, 1, 9)) {
            return NONE;
        }
        return (broken(i, 0, eye) ? 1 : 0) + (broken(i, 1, eye) ? 2 : 0);
    }

    int markings(int eye, int so, int what) {
        if (!in(eye, 1, 9) || !in(so, 0, 3) || !in(what, 0, 1)) {
            return NONE;
        }
        StringBuilder marks = new StringBuilder();
        for (int i = 0; i < now.n; i++) {
            marks.append(marked(i, eye) == so ? 'x' : '.');
        }
        String all = marks.toString();
        if (what == 0) {
            return all.replace(".", "").length();
        }
        int longest = 0;
        for (String stretch : all.split("\\.")) {
            longest = Math.max(longest, stretch.length());
        }
        return longest;
    }

    int joins(int from, int to, int g) {
        if (!in(from, -99, 99) || !in(to, -99, 99) || !in(g, 0, 9)) {
            return NONE;
        }
        if (g == 0) {
            return from == to ? 0 : -2;
        }
        int between = 0;
        while (Math.abs(from - to) > g * (between + 1)) {
            between++;
        }
        return between;
    }

    /** {all dry, CONES, last DOT, last end, highest DOT of PARTY 0, how far apart there}. */
    private int[] bareNight(int a, int b) {
        State s = now.asBare();
        s.minute = Math.min(a, b);
        int cones = 0;
        int[] painter = new int[64];
        while (s.painted() < s.n) {
            for (int p = 0; p < 2; p++) {
                if (s.minute == (p == 0 ? a : b)) {
                    s.works[p] = true;
                }
            }
            State before = s.copy();
            cones = Math.max(cones, s.goBy(law));
            for (int i = 0; i < s.n; i++) {
                if (s.line[i] != null && before.line[i] == null) {
                    // Which one it was tells the DOT that it begins with; asked of a copy.
                    before.begin(law);
                    painter[i] = before.paints[1] != null && before.paints[1] == i ? 1 : 0;
                }
            }
        }
        int dry = 0;
        int last = 0;
        int highest = -2;
        for (int i = 0; i < s.n; i++) {
            dry = Math.max(dry, s.end[i] + s.d[i]);
            if (s.end[i] > s.end[last] || s.end[i] == s.end[last] && painter[i] == 1) {
                last = i;
            }
            highest = painter[i] == 0 ? i : highest;
        }
        int apart = highest == -2 || highest == s.n - 1 ? -2 : Math.abs(s.line[highest] - s.line[highest + 1]);
        return new int[] {dry, cones, last, s.end[last], highest, apart};
    }

    int begins(int minute, int what) {
        return in(minute, 0, 600) && in(what, 0, 2) ? bareNight(minute, minute)[what] : NONE;
    }

    int latest(int by) {
        if (!in(by, 0, 600)) {
            return NONE;
        }
        int latest = -2;
        for (int minute = 0; minute <= by; minute++) {
            if (bareNight(minute, minute)[0] <= by) {
                latest = minute;
            }
        }
        return latest;
    }

    int dewOdds(int minute, int from, int n, int what) {
        if (!in(minute, 0, 600) || !in(from, 0, 9999) || !in(n, 1, 40) || !in(what, 0, 1) || n > tape.size()) {
            return NONE;
        }
        List<Integer> weights = take(n);
        int dry = bareNight(minute, minute)[0];
        int[] odds = {0, 0};
        for (int k = 0; k < n; k++) {
            odds[0] += from + k >= dry ? weights.get(k) : 0;
            odds[1] += weights.get(k);
        }
        if (odds[1] == 0) {
            return -2;
        }
        for (int q = odds[1]; q > 1; q--) {
            if (odds[0] % q == 0 && odds[1] % q == 0) {
                return odds[what] / q;
            }
        }
        return odds[what];
    }

    int meet(int a, int b, int what) {
        if (!in(a, 0, 600) || !in(b, 0, 600) || !in(what, 0, 2)) {
            return NONE;
        }
        int[] night = bareNight(a, b);
        return new int[] {night[4], night[3], night[5]}[what];
    }

    int pinned(int e, int what) {
        if (!in(e, 0, 99)) {
            return NONE;
        }
        List<List<Integer>> best = new ArrayList<>();
        best.add(new ArrayList<>(List.of(0)));
        for (int i = 1; i < now.n; i++) {
            List<Integer> least = null;
            for (int from = 0; from < i; from++) {
                List<Integer> row = new ArrayList<>(best.get(from));
                row.add(i);
                if (off(List.of(from, i))[0] <= e && (least == null || isLess(row, least))) {
                    least = row;
                }
            }
            best.add(least);
        }
        List<Integer> pins = best.get(now.n - 1);
        if (what == 100 || what == 101) {
            return what == 100 ? pins.size() : off(pins)[1];
        }
        return what >= 0 && what < pins.size() ? pins.get(what) : -2;
    }

    private static boolean isLess(List<Integer> a, List<Integer> b) {
        if (a.size() != b.size()) {
            return a.size() < b.size();
        }
        for (int k = 0; k < a.size(); k++) {
            if (!a.get(k).equals(b.get(k))) {
                return a.get(k) < b.get(k);
            }
        }
        return false;
    }

    int lights(int n, int r, int what) {
        if (!in(n, 1, 20) || !in(r, 0, 9) || !in(what, 0, 1) && !in(what, 11, 30) || 2 * n > tape.size()) {
            return NONE;
        }
        List<Integer> bytes = take(2 * n);
        for (int k = 0; k < n; k++) {
            if (bytes.get(2 * k + 1) > 1 || k > 0 && bytes.get(2 * k) < bytes.get(2 * k - 2)) {
                return -2;
            }
        }
        if (what > 10) {
            return waits(bytes, what - 10, r);
        }
        int best = 1;
        for (int g = 20; g >= 1; g--) {
            best = waits(bytes, g, r) <= waits(bytes, best, r) ? g : best;
        }
        return what == 0 ? waits(bytes, best, r) : best;
    }

    private static int waits(List<Integer> bytes, int g, int r) {
        List<ArrayDeque<Integer>> queues = List.of(new ArrayDeque<>(), new ArrayDeque<>());
        int gone = 0;
        int all = 0;
        for (int minute = 0; gone < bytes.size() / 2; minute++) {
            for (int k = 0; k < bytes.size() / 2; k++) {
                if (bytes.get(2 * k) == minute) {
                    queues.get(bytes.get(2 * k + 1)).add(minute);
                }
            }
            int phase = minute % (2 * g + 2 * r);
            int end = phase < g ? 0 : phase < g + r ? -1 : phase < g + r + g ? 1 : -1;
            if (end >= 0 && !queues.get(end).isEmpty()) {
                all += minute - queues.get(end).poll();
                gone++;
            }
        }
        return all;
    }

    int believed(int i, boolean rain) {
        if (!in(i, 0, now.n - 1)) {
            return NONE;
        }
        int rains = rain ? 1 : 0;
        double plainOld = now.old[i] == null ? 0 : law.ask('o', now, i, now.minute, 0, rains);
        double plainLine = now.line[i] == null ? 0 : law.ask('l', now, i, now.minute, 0, rains);
        if (now.spoilt[i] != null) {
            // Of like ones the OLD one then: a little less than half.
            plainLine = Math.floor(plainLine / 2);
            plainLine -= plainLine > 0 ? 0.1 : 0;
        }
        if (plainOld == 0 && plainLine == 0) {
            return 0;
        }
        return plainLine >= plainOld ? 2 : 1;
    }

    private boolean isLost(int i, int by, boolean rain) {
        int due = now.line[i] != null ? now.line[i] : now.rows[0][i];
        return believed(i, rain) == 1 && Math.abs(now.old[i] - due) > by;
    }

    int lost(int by, boolean rain) {
        if (!in(by, 0, 99)) {
            return NONE;
        }
        int all = 0;
        for (int i = 0; i < now.n; i++) {
            all += isLost(i, by, rain) ? 1 : 0;
        }
        return all;
    }

    int burnFirst(int length, int by, boolean rain, int what) {
        if (!in(length, 1, now.n) || !in(by, 0, 99) || !in(what, 0, 1)) {
            return NONE;
        }
        State before = now;
        int best = -1;
        int fewest = 1000;
        for (int start = 0; start + length <= before.n; start++) {
            now = before.copy();
            old(start, start + length - 1, -100);
            int all = lost(by, rain);
            if (all < fewest) {
                best = start;
                fewest = all;
            }
        }
        now = before;
        return what == 0 ? best : fewest;
    }

    int cut(int way, int eye, int enough) {
        if (!in(way, 0, 1) || !in(eye, 1, 9) || !in(enough, 0, 63)) {
            return NONE;
        }
        int all = 0;
        for (int i = 0; i < now.n; i++) {
            boolean whole = (marked(i, eye) >> way & 1) == 0;
            all += whole && sees(i, way, eye, enough) ? 1 : 0;
        }
        return all;
    }

    int renewed(int m, int length, int what) {
        if (!in(m, 1, 4) || !in(length, 1, 16) || what != 10 && !in(what, 0, m - 1)) {
            return NONE;
        }
        int[] best = renew(m, length, 0);
        if (best == null) {
            return -2;
        }
        return what == 10 ? best[0] : best[1 + what];
    }

    /** All ways to lay them from a DOT on: {WEAR, beginnings}; the first of the best ones. */
    private int[] renew(int m, int length, int from) {
        if (m == 0) {
            return new int[] {0};
        }
        int[] best = null;
        for (int start = from; start + length <= now.n; start++) {
            int[] rest = renew(m - 1, length, start + length);
            if (rest == null) {
                break;
            }
            int wear = rest[0];
            for (int i = start; i < start + length; i++) {
                wear += now.rows[2][i];
            }
            if (best == null || wear > best[0]) {
                best = new int[m + 1];
                best[0] = wear;
                best[1] = start;
                System.arraycopy(rest, 1, best, 2, m - 1);
            }
        }
        return best;
    }

    int who(int what) {
        if (!in(what, 0, 2)) {
            return NONE;
        }
        int[] answer = {0, -2, -2};
        for (int minute = 0; minute <= now.minute; minute++) {
            for (int way = 0; way < 2; way++) {
                if (hitsJustThose(minute, way)) {
                    answer = answer[0] == 0 ? new int[] {0, minute, way} : answer;
                    answer[0]++;
                }
            }
        }
        return answer[what];
    }

    private boolean hitsJustThose(int minute, int way) {
        for (int gone = 0; gone < now.n; gone++) {
            int i = way == 0 ? gone : now.n - 1 - gone;
            if (now.line[i] != null) {
                int at = minute + gone;
                boolean hits = at >= now.end[i] && at < now.end[i] + now.d[i];
                boolean hit = now.spoilt[i] != null && now.spoilt[i] != 12;
                if (hits != hit) {
                    return false;
                }
            }
        }
        return true;
    }

    int keep() {
        kept = now.copy();
        return now.painted();
    }

    boolean undo() {
        if (kept == null) {
            return false;
        }
        now = kept.copy();
        return true;
    }

    int check(int n) {
        if (!in(n, 0, now.n) || n > tape.size()) {
            return -2;
        }
        List<Integer> bytes = take(n);
        for (int i = 0; i < n; i++) {
            if (bytes.get(i) != (now.line[i] == null ? 0 : now.line[i] + 100)) {
                return i;
            }
        }
        return NONE;
    }

    int count(int what) {
        if (in(what, 30, 41)) {
            return now.cars[what - 30] == null ? NONE : now.cars[what - 30][0];
        }
        if (in(what, 50, 61)) {
            return now.cars[what - 50] == null ? NONE : now.cars[what - 50][1];
        }
        switch (what) {
            case 0:
                return now.n;
            case 1:
                return now.minute;
            case 2:
                return now.painted();
            case 3:
                return now.spoiltAll();
            case 4:
                return now.cones;
            case 5:
                return now.dew == null ? -2 : now.dew;
            case 6:
                return law.clauses();
            case 7:
                return tape.size();
            case 10:
            case 11:
                return now.works[what - 10] ? 1 : 0;
            case 20:
            case 21:
                return now.offset[what - 20] + 100;
            default:
                return NONE;
        }
    }
}
