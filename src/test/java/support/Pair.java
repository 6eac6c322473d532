import java.util.ArrayList;
import java.util.List;
import java.util.Random;

/** A WhiteLine and its Model, called alike, call by call. */
final class Pair {
    private final WhiteLine x = new WhiteLine();
    private final Model y = new Model();
    private final Random random;
    private final Texts texts;
    private final List<String> calls = new ArrayList<>();
    private boolean isRight = true;
    private static boolean isShown = false;

    Pair(Random random) {
        this.random = random;
        this.texts = new Texts(random);
    }

    boolean isRight() {
        return isRight;
    }

    int calls() {
        return calls.size();
    }

    private void due(String call, long want, long got) {
        calls.add(call + " = " + got);
        Due.is(call, want, got);
        if (want != got) {
            isRight = false;
            if (!isShown) {
                isShown = true;
                System.out.println("after: " + calls);
            }
        }
    }

    private void due(String call, boolean want, boolean got) {
        due(call, want ? 1 : 0, got ? 1 : 0);
    }

    private int below(int n) {
        return random.nextInt(n);
    }

    /** A number within bounds, at them or, now and then, beyond. */
    private int near(int low, int high) {
        switch (below(14)) {
            case 0:
                return low;
            case 1:
                return high;
            case 2:
                return below(2) == 0 ? low - 1 : high + 1;
            default:
                return low + below(high - low + 1);
        }
    }

    private boolean flip() {
        return random.nextBoolean();
    }

    private void feed(int[] bytes) {
        for (int at = 0; at < bytes.length; at += 20) {
            int[] w = new int[5];
            for (int k = 0; k < 20; k++) {
                w[k / 4] = w[k / 4] << 8 | (at + k < bytes.length ? bytes[at + k] : below(256));
            }
            due("feed(" + w[0] + ", " + w[1] + ", " + w[2] + ", " + w[3] + ", " + w[4] + ")",
                    y.feed(w[0], w[1], w[2], w[3], w[4]), x.feed(w[0], w[1], w[2], w[3], w[4]));
        }
    }

    private int feed(String text) {
        int[] bytes = new int[text.length()];
        for (int i = 0; i < bytes.length; i++) {
            bytes[i] = text.charAt(i);
        }
        feed(bytes);
        return bytes.length;
    }

    void road(int n) {
        due("road(" + n + ")", y.road(n), x.road(n));
    }

    private void row(int kind) {
        int n = feed(texts.row(kind == 0, y.now.n));
        due("row(" + kind + ", " + n + ")", y.row(kind, n), x.row(kind, n));
    }

    private void law(String text) {
        int n = feed(text);
        due("law(" + n + ") " + text, y.law(n), x.law(n));
    }

    private void minutes(int n) {
        due("minutes(" + n + ")", y.minutes(n), x.minutes(n));
    }

    void goToTheEnd() {
        for (int k = 0; k < 18; k++) {
            minutes(600);
        }
    }

    /** One call that changes something, with the texts that it needs. */
    void change() {
        int n = y.now.n;
        switch (below(15)) {
            case 0:
            case 1:
            case 2:
                row(below(12) == 0 ? near(0, 2) : below(3));
                break;
            case 3:
                law(below(3) == 0 ? texts.law() : texts.plainLaw());
                break;
            case 4:
                int from = near(0, n - 1);
                int to = below(9) == 0 ? near(0, n - 1) : Math.min(n - 1, from + below(n));
                int offset = near(-100, 99) / (below(3) + 1);
                due("old(" + from + ", " + to + ", " + offset + ")", y.old(from, to, offset), x.old(from, to, offset));
                break;
            case 5:
            case 6:
                int a = below(20) == 0 ? near(0, 1) : below(2);
                boolean works = below(4) != 0;
                int party = near(-20, 20);
                due("party(" + a + ", " + works + ", " + party + ")", y.party(a, works, party), x.party(a, works, party));
                break;
            case 7:
                int i = near(0, 11);
                int way = below(20) == 0 ? 2 : below(2);
                int minute = below(9) == 0 ? near(0, 9999) : Math.max(0, y.now.minute + below(2 * n) - n);
                due("car(" + i + ", " + way + ", " + minute + ")", y.car(i, way, minute), x.car(i, way, minute));
                break;
            case 8:
                int cones = below(2) == 0 ? near(0, 64) : below(6);
                due("cones(" + cones + ")", y.cones(cones), x.cones(cones));
                break;
            case 9:
                int dew = below(4) == 0 ? near(-1, 9999) : y.now.minute + below(15);
                due("dew(" + dew + ")", y.dew(dew), x.dew(dew));
                break;
            case 10:
                int first = near(0, n - 1);
                int last = below(9) == 0 ? near(0, n - 1) : Math.min(n - 1, first + below(n));
                due("burns(" + first + ", " + last + ")", y.burns(first, last), x.burns(first, last));
                break;
            case 11:
            case 12:
            case 13:
                minutes(below(4) == 0 ? near(1, 600) / (1 + below(40)) : 1 + below(8));
                break;
            default:
                changeRarely();
                break;
        }
    }

    private void changeRarely() {
        switch (below(6)) {
            case 0:
                road(near(8, 64));
                break;
            case 1:
                road(8 + below(8));
                break;
            case 2:
            case 3:
                due("keep()", y.keep(), x.keep());
                break;
            default:
                due("undo()", y.undo(), x.undo());
                break;
        }
    }

    /** One call that asks. */
    void ask() {
        int n = y.now.n;
        int a = near(0, n - 1);
        int eye = near(1, 9);
        int way = below(20) == 0 ? near(0, 1) : below(2);
        int what = near(0, 2);
        int e = below(2) == 0 ? below(8) : near(0, 99);
        switch (below(26)) {
            case 0:
                int minutes = below(2) == 0 ? near(1, 600) : 1 + below(30);
                int asked = near(0, 6);
                due("tried(" + minutes + ", " + asked + ")", y.tried(minutes, asked), x.tried(minutes, asked));
                break;
            case 1:
            case 2:
                int of = near(0, 8);
                due("dot(" + a + ", " + of + ")", y.dot(a, of), x.dot(a, of));
                break;
            case 3:
                int g = below(2) == 0 ? below(3) : near(0, 9);
                int dot = below(3) == 0 ? 100 : near(0, n - 1);
                due("smooth(" + g + ", " + dot + ")", y.smooth(g, dot), x.smooth(g, dot));
                break;
            case 4:
                due("apart(" + e + ", " + what + ")", y.apart(e, what), x.apart(e, what));
                break;
            case 5:
                due("seen(" + a + ", " + way + ", " + eye + ")", y.seen(a, way, eye), x.seen(a, way, eye));
                break;
            case 6:
                due("marked(" + a + ", " + eye + ")", y.marked(a, eye), x.marked(a, eye));
                break;
            case 7:
                int so = near(0, 3);
                due("markings(" + eye + ", " + so + ", " + what + ")", y.markings(eye, so, what), x.markings(eye, so, what));
                break;
            case 8:
                int from = near(-99, 99);
                int to = near(-99, 99);
                int by = near(0, 9);
                due("joins(" + from + ", " + to + ", " + by + ")", y.joins(from, to, by), x.joins(from, to, by));
                break;
            case 9:
            case 10:
                askOfBareNights();
                break;
            case 11:
                askOdds();
                break;
            case 12:
                int place = below(3) == 0 ? 100 + below(2) : below(9) == 0 ? near(0, 101) : below(n);
                due("pinned(" + e + ", " + place + ")", y.pinned(e, place), x.pinned(e, place));
                break;
            case 13:
                askLights();
                break;
            case 14:
                due("believed(" + a + ", rain)", y.believed(a, true), x.believed(a, true));
                due("believed(" + a + ", dry)", y.believed(a, false), x.believed(a, false));
                break;
            case 15:
                boolean rain = flip();
                due("lost(" + e + ", " + rain + ")", y.lost(e, rain), x.lost(e, rain));
                break;
            case 16:
                int length = near(1, n);
                boolean wet = flip();
                due("burnFirst(" + length + ", " + e + ", " + wet + ", " + what + ")",
                        y.burnFirst(length, e, wet, what), x.burnFirst(length, e, wet, what));
                break;
            case 17:
                int enough = below(2) == 0 ? below(8) : near(0, 63);
                due("cut(" + way + ", " + eye + ", " + enough + ")", y.cut(way, eye, enough), x.cut(way, eye, enough));
                break;
            case 18:
                askRenewed();
                break;
            case 19:
            case 20:
                due("who(" + what + ")", y.who(what), x.who(what));
                break;
            case 21:
                askCheck();
                break;
            default:
                int number = below(2) == 0 ? near(0, 11) : near(-3, 70);
                due("count(" + number + ")", y.count(number), x.count(number));
                break;
        }
    }

    private void askOfBareNights() {
        int what = near(0, 2);
        int a = below(2) == 0 ? below(9) : near(0, 600);
        int b = below(2) == 0 ? a + below(30) : near(0, 600);
        switch (below(9)) {
            case 0:
                int by = below(2) == 0 ? below(150) : near(0, 600);
                due("latest(" + by + ")", y.latest(by), x.latest(by));
                break;
            case 1:
            case 2:
            case 3:
                due("begins(" + a + ", " + what + ")", y.begins(a, what), x.begins(a, what));
                break;
            default:
                int first = flip() ? a : b;
                int second = first == a ? b : a;
                due("meet(" + first + ", " + second + ", " + what + ")", y.meet(first, second, what),
                        x.meet(first, second, what));
                break;
        }
    }

    private void askOdds() {
        int[] weights = new int[below(41)];
        int most = below(5) == 0 ? 1 : new int[] {2, 5, 256}[below(3)];
        for (int k = 0; k < weights.length; k++) {
            weights[k] = below(3) == 0 ? 0 : below(most);
        }
        feed(weights);
        int minute = below(2) == 0 ? below(9) : near(0, 600);
        int from = below(9) == 0 ? near(0, 9999) : minute + below(60);
        int n = below(9) == 0 ? near(1, 40) : Math.max(1, weights.length);
        int what = below(9) == 0 ? near(0, 1) : below(2);
        due("dewOdds(" + minute + ", " + from + ", " + n + ", " + what + ")", y.dewOdds(minute, from, n, what),
                x.dewOdds(minute, from, n, what));
    }

    private void askLights() {
        int[] cars = new int[2 * (1 + below(20))];
        int minute = 0;
        for (int k = 0; k < cars.length; k += 2) {
            minute = below(60) == 0 ? below(256) : Math.min(255, minute + below(new int[] {2, 5, 20}[below(3)]));
            cars[k] = minute;
            cars[k + 1] = below(60) == 0 ? 2 : below(2);
        }
        feed(cars);
        int n = below(9) == 0 ? near(1, 20) : cars.length / 2;
        int r = near(0, 9);
        int what = below(2) == 0 ? below(2) : near(10, 30);
        due("lights(" + n + ", " + r + ", " + what + ")", y.lights(n, r, what), x.lights(n, r, what));
    }

    private void askRenewed() {
        int m = near(1, 4);
        int length = y.now.n > 20 && m > 2 ? 8 + below(9) : near(1, 16);
        int what = below(2) == 0 ? 10 : near(0, m - 1 < 0 ? 0 : m - 1);
        due("renewed(" + m + ", " + length + ", " + what + ")", y.renewed(m, length, what), x.renewed(m, length, what));
    }

    private void askCheck() {
        int n = near(0, y.now.n);
        int[] bytes = new int[Math.max(0, n)];
        for (int i = 0; i < bytes.length && i < y.now.n; i++) {
            bytes[i] = y.now.line[i] == null ? 0 : y.now.line[i] + 100;
        }
        if (bytes.length > 0 && below(3) == 0) {
            bytes[below(bytes.length)] ^= 1 << below(8);
        }
        feed(bytes);
        due("check(" + n + ")", y.check(n), x.check(n));
    }

    /** Every answer that tells of the state, so that nothing that a call changed is missed. */
    void askForAll() {
        for (int what = 0; what < 62; what++) {
            due("count(" + what + ")", y.count(what), x.count(what));
        }
        for (int k = 0; k < 24; k++) {
            int i = below(y.now.n);
            for (int what = 3; what < 9; what++) {
                due("dot(" + i + ", " + what + ")", y.dot(i, what), x.dot(i, what));
            }
        }
    }
}
