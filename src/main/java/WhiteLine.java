/**
 * One white line along a kerb: the road, the law of the paint, the nights in which two parties
 * paint it, and what can be asked of all of them. The words in capitals are those of the document.
 */
public final class WhiteLine {
    public static final int NONE = -1;

    /** What the document writes as -2: there is no such thing where one was asked for. */
    private static final int NOTHING = -2;
    private static final int FEWEST_DOTS = 8;
    private static final int FIRST_DOTS = 16;
    private static final int MOST_DOTS = 64;
    private static final int MOST_OFFSET = 99;
    /** Stands for no OLD line and no paint: one below every offset. */
    private static final int BARE = -100;
    /** What is added to an offset so that its answer is above 0. */
    private static final int SHIFT = 100;
    private static final int MOST_TAPE = 260;
    private static final int FED_BYTES = 20;
    private static final int MOST_ROW_TEXT = 120;
    private static final int MOST_LAW_TEXT = 240;
    private static final int MOST_CLAUSES = 16;
    private static final int MOST_OPEN = 6;
    private static final int PARTIES = 2;
    private static final int MOST_PARTY_OFFSET = 20;
    private static final int CARS = 12;
    /** What SPOILT a DOT if it was no CAR. */
    private static final int BY_DEW = 12;
    private static final int LAST_MINUTE = 9999;
    private static final int MOST_MINUTES = 600;
    private static final int MOST_WEIGHTS = 40;
    private static final int MOST_WAITING = 20;
    private static final int MOST_GREEN = 20;
    private static final int MOST_RED = 9;
    private static final int MOST_STRETCHES = 4;
    private static final int MOST_LENGTH = 16;
    private static final int MOST_APART = 16;
    private static final int MOST_SMOOTH = 30;
    private static final int[] NO_TEXT = {};

    private final int[] tape = new int[MOST_TAPE];
    private int tapeSize = 0;
    private final RowReader rowReader = new RowReader();
    private final LawReader lawReader = new LawReader();
    private Law inForce = new Law();
    private final Road now = new Road();
    private final Road kept = new Road();
    private final Road trial = new Road();
    private boolean isKept = false;
    private final Plan plan = new Plan();
    private final Fit fit = new Fit();
    private final Driver driver = new Driver();
    private final Stretches stretches = new Stretches();
    private final Lane lane = new Lane();

    public WhiteLine() {
    }

    public boolean road(int n) {
        if (!isIn(n, FEWEST_DOTS, MOST_DOTS)) {
            return false;
        }
        now.layAnew(n);
        return true;
    }

    public int row(int kind, int n) {
        if (!isIn(kind, Road.KERB, Road.WEAR) || !isIn(n, 1, MOST_ROW_TEXT) || n > tapeSize) {
            return NONE;
        }
        int answer = rowReader.read(tape, n, now.dots, kind == Road.KERB);
        tapeSize = 0;
        if (answer >= 0) {
            rowReader.writeTo(now.rowOf(kind), now.dots);
        }
        return answer;
    }

    public boolean old(int from, int to, int offset) {
        if (!now.isStretch(from, to) || !isIn(offset, BARE, MOST_OFFSET)) {
            return false;
        }
        for (int i = from; i <= to; i++) {
            now.oldLine[i] = offset;
        }
        return true;
    }

    public int feed(int a, int b, int c, int d, int e) {
        if (tapeSize > MOST_TAPE - FED_BYTES) {
            return NONE;
        }
        putOnTape(a);
        putOnTape(b);
        putOnTape(c);
        putOnTape(d);
        putOnTape(e);
        return tapeSize;
    }

    public int law(int n) {
        if (!isIn(n, 1, MOST_LAW_TEXT) || n > tapeSize) {
            return NONE;
        }
        int fault = lawReader.read(tape, n);
        tapeSize = 0;
        if (fault != 0) {
            return fault;
        }
        Law before = inForce;
        inForce = lawReader.law;
        lawReader.law = before;
        return inForce.clauses;
    }

    public boolean party(int a, boolean works, int offset) {
        if (!isIn(a, 0, PARTIES - 1) || !isIn(offset, -MOST_PARTY_OFFSET, MOST_PARTY_OFFSET)) {
            return false;
        }
        if (!works && now.paints[a] >= 0) {
            now.makeBare(now.paints[a]);
        }
        now.works[a] = works;
        now.offsets[a] = offset;
        return true;
    }

    public boolean car(int i, int way, int minute) {
        if (!isIn(i, 0, CARS - 1) || !isIn(way, 0, 1) || !isIn(minute, 0, LAST_MINUTE)) {
            return false;
        }
        now.carWays[i] = way;
        now.carMinutes[i] = minute;
        return true;
    }

    public boolean cones(int n) {
        if (!isIn(n, 0, MOST_DOTS)) {
            return false;
        }
        now.coneCount = n;
        return true;
    }

    public boolean dew(int minute) {
        if (!isIn(minute, NONE, LAST_MINUTE)) {
            return false;
        }
        now.dewMinute = minute;
        return true;
    }

    public int burns(int from, int to) {
        if (!now.isStretch(from, to)) {
            return NONE;
        }
        int painted = 0;
        for (int i = from; i <= to; i++) {
            if (now.isPainted(i)) {
                painted++;
            }
            now.makeBare(i);
        }
        return painted;
    }

    public int minutes(int n) {
        if (!isIn(n, 1, MOST_MINUTES)) {
            return NONE;
        }
        return Night.pass(now, inForce, n);
    }

    public int tried(int n, int what) {
        if (!isIn(n, 1, MOST_MINUTES) || !isIn(what, 0, 6)) {
            return NONE;
        }
        trial.copyFrom(now);
        Night.pass(trial, inForce, n);
        switch (what) {
            case 0:
                return trial.paintedDots();
            case 1:
                return trial.spoiltDots();
            case 2:
                return trial.wetDots();
            case 3:
                return trial.paintedDots() == trial.dots && trial.wetDots() == 0 ? 1 : 0;
            case 4:
                return trial.paints[0];
            case 5:
                return trial.paints[1];
            default:
                return trial.offKerb();
        }
    }

    public int dot(int i, int what) {
        if (!now.isDot(i)) {
            return NONE;
        }
        switch (what) {
            case 0:
                return now.kerb[i];
            case 1:
                return now.height[i];
            case 2:
                return now.wear[i];
            case 3:
                return shifted(now.oldLine[i]);
            case 4:
                return shifted(now.line[i]);
            case 5:
                return now.isPainted(i) ? now.ends[i] : NOTHING;
            case 6:
                return now.spoiltBy[i];
            case 7:
                return now.isWet(i) ? 1 : 0;
            case 8:
                return now.painterOf(i);
            default:
                return NONE;
        }
    }

    public int smooth(int g, int what) {
        if (!isIn(g, 0, 9) || what != 100 && !now.isDot(what)) {
            return NONE;
        }
        int off = fit.makeSmooth(now, g);
        return what == 100 ? off : fit.chosen[what] + SHIFT;
    }

    public int apart(int e, int what) {
        if (!isIn(e, 0, MOST_OFFSET) || !isIn(what, 0, 1)) {
            return NONE;
        }
        int m = Fit.greatestApart(now, e);
        return what == 0 ? m : Fit.offByApart(now, m);
    }

    public int seen(int i, int way, int eye) {
        if (!now.isDot(i) || !isIn(way, 0, 1) || !isEye(eye)) {
            return NONE;
        }
        return Sight.dotsAhead(now, i, way, eye);
    }

    public int marked(int i, int eye) {
        if (!now.isDot(i) || !isEye(eye)) {
            return NONE;
        }
        return Sight.marking(now, inForce, i, eye);
    }

    public int markings(int eye, int so, int what) {
        if (!isEye(eye) || !isIn(so, 0, 3) || !isIn(what, 0, 1)) {
            return NONE;
        }
        int all = 0;
        int onEnd = 0;
        int longest = 0;
        for (int i = 0; i < now.dots; i++) {
            if (Sight.marking(now, inForce, i, eye) == so) {
                all++;
                onEnd++;
            } else {
                onEnd = 0;
            }
            longest = Math.max(longest, onEnd);
        }
        return what == 0 ? all : longest;
    }

    public int joins(int from, int to, int g) {
        if (!isOffset(from) || !isOffset(to) || !isIn(g, 0, 9)) {
            return NONE;
        }
        int far = Math.abs(from - to);
        if (far == 0) {
            return 0;
        }
        return g <= 0 ? NOTHING : (far - 1) / g;
    }

    public int begins(int minute, int what) {
        if (!isIn(minute, 0, MOST_MINUTES) || !isIn(what, 0, 2)) {
            return NONE;
        }
        plan.paint(now, inForce, minute, minute);
        switch (what) {
            case 0:
                return plan.allDry;
            case 1:
                return plan.conesNeeded(now.dots);
            default:
                return plan.lastDot;
        }
    }

    public int latest(int by) {
        if (!isIn(by, 0, MOST_MINUTES)) {
            return NONE;
        }
        if (!inForce.asksForMinute) {
            // Then all takes as long whenever it is begun.
            plan.paint(now, inForce, 0, 0);
            return by >= plan.allDry ? by - plan.allDry : NOTHING;
        }
        // A DOT takes one MINUTE at least, and two PARTIES paint: none that is later can do.
        int start = by - (now.dots + 1) / 2;
        for (int minute = start; minute >= 0; minute--) {
            plan.paint(now, inForce, minute, minute);
            if (plan.allDry <= by) {
                return minute;
            }
        }
        return NOTHING;
    }

    public int dewOdds(int minute, int from, int n, int what) {
        if (!isIn(minute, 0, MOST_MINUTES) || !isIn(from, 0, LAST_MINUTE)
                || !isIn(n, 1, MOST_WEIGHTS) || !isIn(what, 0, 1) || n > tapeSize) {
            return NONE;
        }
        plan.paint(now, inForce, minute, minute);
        int above = 0;
        int below = 0;
        for (int k = 0; k < n; k++) {
            int weight = tape[k];
            below += weight;
            above += plan.allDry <= from + k ? weight : 0;
        }
        tapeSize = 0;
        if (below <= 0) {
            return NOTHING;
        }
        int divisor = commonDivisor(above, below);
        return (what == 0 ? above : below) / divisor;
    }

    public int meet(int a, int b, int what) {
        if (!isIn(a, 0, MOST_MINUTES) || !isIn(b, 0, MOST_MINUTES) || !isIn(what, 0, 2)) {
            return NONE;
        }
        plan.paint(now, inForce, a, b);
        int highest = plan.highestOfFirst;
        if (what == 1) {
            return plan.lastEnd;
        }
        if (what == 0) {
            return highest < 0 ? NOTHING : highest;
        }
        if (highest < 0 || highest >= now.dots - 1) {
            return NOTHING;
        }
        return Math.abs(now.offsetBy(0, highest) - now.offsetBy(1, highest + 1));
    }

    public int pinned(int e, int what) {
        if (!isIn(e, 0, MOST_OFFSET)) {
            return NONE;
        }
        int pins = fit.pin(now, e);
        if (what == 100) {
            return pins;
        }
        if (what == 101) {
            return fit.offByPins(now, pins);
        }
        // The document sets no bounds to what: any other one is a place, there or not.
        return isIn(what, 0, pins - 1) ? fit.chosen[what] : NOTHING;
    }

    public int lights(int n, int r, int what) {
        boolean asksOne = isIn(what, 11, 10 + MOST_GREEN);
        if (!isIn(n, 1, MOST_WAITING) || !isIn(r, 0, MOST_RED) || !asksOne && !isIn(what, 0, 1)
                || 2 * n > tapeSize) {
            return NONE;
        }
        boolean areSuch = lane.take(tape, n);
        tapeSize = 0;
        if (!areSuch) {
            return NOTHING;
        }
        if (asksOne) {
            return lane.waits(what - 10, r);
        }
        int best = lane.bestGreen(r);
        return what == 0 ? lane.waits(best, r) : best;
    }

    public int believed(int i, boolean rain) {
        return now.isDot(i) ? Driver.belief(now, inForce, i, rain) : NONE;
    }

    public int lost(int by, boolean rain) {
        if (!isIn(by, 0, MOST_OFFSET)) {
            return NONE;
        }
        return driver.findLost(now, inForce, by, rain);
    }

    public int burnFirst(int length, int by, boolean rain, int what) {
        if (!isIn(length, 1, now.dots) || !isIn(by, 0, MOST_OFFSET) || !isIn(what, 0, 1)) {
            return NONE;
        }
        int all = driver.findLost(now, inForce, by, rain);
        int best = 0;
        for (int start = 1; start + length <= now.dots; start++) {
            if (driver.lostIn(start, length) > driver.lostIn(best, length)) {
                best = start;
            }
        }
        return what == 0 ? best : all - driver.lostIn(best, length);
    }

    public int cut(int way, int eye, int enough) {
        if (!isIn(way, 0, 1) || !isEye(eye) || !isIn(enough, 0, 63)) {
            return NONE;
        }
        int all = 0;
        for (int i = 0; i < now.dots; i++) {
            if (!Sight.isBroken(now, inForce, i, way, eye) && Sight.suffices(now, i, way, eye, enough)) {
                all++;
            }
        }
        return all;
    }

    public int renewed(int m, int length, int what) {
        if (!isIn(m, 1, MOST_STRETCHES) || !isIn(length, 1, MOST_LENGTH)
                || what != 10 && !isIn(what, 0, m - 1)) {
            return NONE;
        }
        if (m * length > now.dots) {
            return NOTHING;
        }
        int most = stretches.choose(now, m, length);
        return what == 10 ? most : stretches.starts[what];
    }

    public int who(int what) {
        if (!isIn(what, 0, 2)) {
            return NONE;
        }
        driver.suspect(now);
        switch (what) {
            case 0:
                return driver.suspects;
            case 1:
                return driver.firstMinute;
            default:
                return driver.firstWay;
        }
    }

    public int keep() {
        kept.copyFrom(now);
        isKept = true;
        return now.paintedDots();
    }

    public boolean undo() {
        if (!isKept) {
            return false;
        }
        now.copyFrom(kept);
        return true;
    }

    public int check(int n) {
        if (!isIn(n, 0, now.dots) || n > tapeSize) {
            return NOTHING;
        }
        tapeSize = 0;
        for (int i = 0; i < n; i++) {
            int due = now.isPainted(i) ? now.line[i] + SHIFT : 0;
            if (tape[i] != due) {
                return i;
            }
        }
        return NONE;
    }

    public int count(int what) {
        if (isIn(what, 10, 10 + PARTIES - 1)) {
            return now.works[what - 10] ? 1 : 0;
        }
        if (isIn(what, 20, 20 + PARTIES - 1)) {
            return now.offsets[what - 20] + SHIFT;
        }
        if (isIn(what, 30, 30 + CARS - 1)) {
            return now.carWays[what - 30];
        }
        if (isIn(what, 50, 50 + CARS - 1)) {
            return now.carMinutes[what - 50];
        }
        switch (what) {
            case 0:
                return now.dots;
            case 1:
                return now.minute;
            case 2:
                return now.paintedDots();
            case 3:
                return now.spoiltDots();
            case 4:
                return now.coneCount;
            case 5:
                return now.dewMinute == NONE ? NOTHING : now.dewMinute;
            case 6:
                return inForce.clauses;
            case 7:
                return tapeSize;
            default:
                return NONE;
        }
    }

    private void putOnTape(int word) {
        for (int shift = 24; shift >= 0 && tapeSize < MOST_TAPE; shift -= 8) {
            tape[tapeSize] = (word >>> shift) & 255;
            tapeSize++;
        }
    }

    private static boolean isIn(int number, int lowest, int highest) {
        return number >= lowest && number <= highest;
    }

    private static boolean isOffset(int number) {
        return isIn(number, -MOST_OFFSET, MOST_OFFSET);
    }

    private static boolean isEye(int eye) {
        return isIn(eye, 1, 9);
    }

    private static int shifted(int offset) {
        return offset == BARE ? NOTHING : offset + SHIFT;
    }

    private static int heldIn(int number, int lowest, int highest) {
        return Math.max(lowest, Math.min(highest, number));
    }

    /** Of two numbers of which the second is above 0; at most a byte's worth times 40 each. */
    private static int commonDivisor(int a, int b) {
        int greater = b;
        int rest = a;
        for (int k = 0; k < 64 && rest > 0; k++) {
            int next = greater % rest;
            greater = rest;
            rest = next;
        }
        return Math.max(1, greater);
    }

    /** All that is KEPT and UNDONE: the road, THE LINE, and who works and drives on it. */
    private static final class Road {
        static final int KERB = 0;
        static final int HEIGHT = 1;
        static final int WEAR = 2;

        int dots = FIRST_DOTS;
        final int[] kerb = new int[MOST_DOTS];
        final int[] height = new int[MOST_DOTS];
        final int[] wear = new int[MOST_DOTS];
        final int[] oldLine = new int[MOST_DOTS];
        final int[] line = new int[MOST_DOTS];
        /** The MINUTE at which a DOT was painted, and d as it was asked then. */
        final int[] ends = new int[MOST_DOTS];
        final int[] dries = new int[MOST_DOTS];
        final int[] spoiltBy = new int[MOST_DOTS];
        final boolean[] works = new boolean[PARTIES];
        /** The DOT that a PARTY paints, or NOTHING, and how many MINUTES it still has with it. */
        final int[] paints = new int[PARTIES];
        final int[] minutesLeft = new int[PARTIES];
        final int[] offsets = new int[PARTIES];
        /** The way and MINUTE of a CAR, NONE if it was never told. */
        final int[] carWays = new int[CARS];
        final int[] carMinutes = new int[CARS];
        int coneCount = MOST_DOTS;
        int dewMinute = NONE;
        int minute = 0;

        Road() {
            for (int i = 0; i < CARS; i++) {
                carWays[i] = NONE;
                carMinutes[i] = NONE;
            }
            layAnew(FIRST_DOTS);
        }

        void layAnew(int n) {
            dots = n;
            for (int i = 0; i < MOST_DOTS; i++) {
                kerb[i] = 0;
                height[i] = 0;
                wear[i] = 0;
                oldLine[i] = BARE;
                makeBare(i);
            }
            for (int a = 0; a < PARTIES; a++) {
                works[a] = false;
                paints[a] = NOTHING;
            }
        }

        void copyFrom(Road other) {
            dots = other.dots;
            System.arraycopy(other.kerb, 0, kerb, 0, MOST_DOTS);
            System.arraycopy(other.height, 0, height, 0, MOST_DOTS);
            System.arraycopy(other.wear, 0, wear, 0, MOST_DOTS);
            System.arraycopy(other.oldLine, 0, oldLine, 0, MOST_DOTS);
            System.arraycopy(other.line, 0, line, 0, MOST_DOTS);
            System.arraycopy(other.ends, 0, ends, 0, MOST_DOTS);
            System.arraycopy(other.dries, 0, dries, 0, MOST_DOTS);
            System.arraycopy(other.spoiltBy, 0, spoiltBy, 0, MOST_DOTS);
            for (int a = 0; a < PARTIES; a++) {
                works[a] = other.works[a];
                paints[a] = other.paints[a];
                minutesLeft[a] = other.minutesLeft[a];
                offsets[a] = other.offsets[a];
            }
            System.arraycopy(other.carWays, 0, carWays, 0, CARS);
            System.arraycopy(other.carMinutes, 0, carMinutes, 0, CARS);
            coneCount = other.coneCount;
            dewMinute = other.dewMinute;
            minute = other.minute;
        }

        int[] rowOf(int kind) {
            if (kind == KERB) {
                return kerb;
            }
            return kind == HEIGHT ? height : wear;
        }

        boolean isDot(int i) {
            return i >= 0 && i < dots;
        }

        boolean isStretch(int from, int to) {
            return isDot(from) && isDot(to) && from <= to;
        }

        boolean isPainted(int i) {
            return line[i] != BARE;
        }

        boolean isSpoilt(int i) {
            return spoiltBy[i] != NOTHING;
        }

        /** A DOT that was painted in this very MINUTE ends one MINUTE later: so it is wet by any d. */
        boolean isWet(int i) {
            return isPainted(i) && minute - ends[i] < dries[i];
        }

        boolean isBeingPainted(int i) {
            return painterOf(i) != NOTHING;
        }

        int painterOf(int i) {
            for (int a = 0; a < PARTIES; a++) {
                if (paints[a] == i) {
                    return a;
                }
            }
            return NOTHING;
        }

        /** Who paints the DOT paints no more, but works as before. */
        void makeBare(int i) {
            line[i] = BARE;
            ends[i] = NOTHING;
            dries[i] = 0;
            spoiltBy[i] = NOTHING;
            for (int a = 0; a < PARTIES; a++) {
                if (paints[a] == i) {
                    paints[a] = NOTHING;
                }
            }
        }

        void spoil(int i, int by) {
            if (spoiltBy[i] == NOTHING) {
                spoiltBy[i] = by;
            }
        }

        /** The offset that a PARTY's paint has at a DOT. */
        int offsetBy(int party, int i) {
            return heldIn(kerb[i] + offsets[party], -MOST_OFFSET, MOST_OFFSET);
        }

        /** The next DOT for a PARTY, or NOTHING. */
        int nextFor(int party) {
            for (int k = 0; k < dots; k++) {
                int i = party == 0 ? k : dots - 1 - k;
                if (!isPainted(i) && !isBeingPainted(i)) {
                    return i;
                }
            }
            return NOTHING;
        }

        int conesInUse() {
            int all = wetDots();
            for (int a = 0; a < PARTIES; a++) {
                all += paints[a] == NOTHING ? 0 : 1;
            }
            return all;
        }

        int paintedDots() {
            int all = 0;
            for (int i = 0; i < dots; i++) {
                all += isPainted(i) ? 1 : 0;
            }
            return all;
        }

        int spoiltDots() {
            int all = 0;
            for (int i = 0; i < dots; i++) {
                all += isSpoilt(i) ? 1 : 0;
            }
            return all;
        }

        int wetDots() {
            int all = 0;
            for (int i = 0; i < dots; i++) {
                all += isWet(i) ? 1 : 0;
            }
            return all;
        }

        int offKerb() {
            int all = 0;
            for (int i = 0; i < dots; i++) {
                all += isPainted(i) ? Math.abs(line[i] - kerb[i]) : 0;
            }
            return all;
        }
    }

    /** Reads the TEXT of a ROW. */
    private static final class RowReader {
        private final int[] values = new int[MOST_DOTS];
        private int[] text = NO_TEXT;
        private int size = 0;
        private int at = 0;
        private int filled = 0;
        private int fault = 0;

        /** The sum of the amounts, or the FAULT's number below 0. */
        int read(int[] bytes, int n, int dots, boolean maySink) {
            text = bytes;
            size = Math.min(n, bytes.length);
            at = 0;
            filled = 0;
            fault = 0;
            // Each VALUE is for one DOT at least: one more than DOTS is a FAULT already.
            for (int k = 0; k <= dots; k++) {
                if (!readValue(dots, maySink) || at >= size) {
                    break;
                }
                if (peek() != ',') {
                    fail(1, at);
                    break;
                }
                at++;
            }
            if (fault == 0 && filled < dots) {
                fail(1, at);
            }
            return fault != 0 ? fault : sumOfAmounts();
        }

        void writeTo(int[] row, int dots) {
            for (int i = 0; i < dots && i < row.length && i < MOST_DOTS; i++) {
                row[i] = values[i];
            }
        }

        private boolean readValue(int dots, boolean maySink) {
            int start = at;
            boolean sinks = maySink && peek() == '-';
            at += sinks ? 1 : 0;
            int firstDigit = at;
            int number = readNumber();
            if (number < 0) {
                return fail(1, at);
            }
            if (sinks && number == 0) {
                return fail(1, firstDigit);
            }
            int times = 1;
            if (peek() == '*') {
                at++;
                firstDigit = at;
                times = readNumber();
                if (times < 0) {
                    return fail(1, at);
                }
                if (!isIn(times, 2, 64)) {
                    return fail(3, firstDigit);
                }
            }
            if (filled + times > dots || filled + times > MOST_DOTS) {
                return fail(6, start);
            }
            for (int k = 0; k < times; k++) {
                values[filled] = sinks ? -number : number;
                filled++;
            }
            return true;
        }

        /** A number of one or two digits, or NONE. */
        private int readNumber() {
            int number = NONE;
            for (int k = 0; k < 2 && isIn(peek(), '0', '9'); k++) {
                number = Math.max(0, number) * 10 + peek() - '0';
                at++;
            }
            return number;
        }

        private int peek() {
            return at >= 0 && at < size ? text[at] : NONE;
        }

        private boolean fail(int number, int place) {
            fault = -1000 * number - place;
            return false;
        }

        private int sumOfAmounts() {
            int sum = 0;
            for (int i = 0; i < filled; i++) {
                sum += Math.abs(values[i]);
            }
            return sum;
        }
    }

    /**
     * THE LAW as a row of steps for a small stack: the signs of the TEXT, each behind what it works
     * on. A step's sign is that of the TEXT, or one of the three below.
     */
    private static final class Law {
        static final int NUMBER = '0';
        static final int LETTER = 'i';
        static final int END = ';';
        /** A sign of the TEXT makes one step at most, and so do the ( and ) of a CLAUSE. */
        private static final int MOST_STEPS = MOST_LAW_TEXT;
        private static final int STACK = 32;

        int clauses = 0;
        private int steps = 0;
        /** Whether t stands anywhere in it. */
        boolean asksForMinute = false;
        private final int[] signs = new int[MOST_STEPS];
        private final int[] values = new int[MOST_STEPS];
        private final int[] letters = new int[MOST_CLAUSES];
        private final int[] worthAt = new int[MOST_CLAUSES];
        private final int[] holdsAt = new int[MOST_CLAUSES];

        private final int[] stack = new int[STACK];
        private int top = 0;
        private boolean isRefused = false;

        private Road road = null;
        private int dot = 0;
        private int minute = 0;
        private int party = 0;
        private int rain = 0;

        void clear() {
            clauses = 0;
            steps = 0;
            asksForMinute = false;
        }

        /** A new CLAUSE, whose E comes next. */
        void beginClause(int letter) {
            if (clauses < MOST_CLAUSES) {
                letters[clauses] = letter;
                worthAt[clauses] = steps;
                clauses++;
            }
        }

        void beginCondition() {
            if (clauses > 0) {
                holdsAt[clauses - 1] = steps;
            }
        }

        /** Answers the place of the step. */
        int add(int sign, int value) {
            if (steps >= MOST_STEPS) {
                return NONE;
            }
            if (sign == LETTER && value == 't') {
                asksForMinute = true;
            }
            signs[steps] = sign;
            values[steps] = value;
            steps++;
            return steps - 1;
        }

        /** The step at a place leads here if what stands behind it does not matter. */
        void leadHere(int place) {
            if (place >= 0 && place < steps) {
                values[place] = steps;
            }
        }

        /** What THE LAW says for a letter at a DOT, in its bounds. */
        int ask(int letter, Road where, int i, int when, int who, int rains) {
            road = where;
            dot = i;
            minute = when;
            party = who;
            rain = rains;
            int lowest = letter == 'p' ? 1 : 0;
            for (int c = 0; c < clauses; c++) {
                if (letters[c] == letter && run(holdsAt[c]) != 0) {
                    return heldIn(run(worthAt[c]), lowest, highest(letter));
                }
            }
            return lowest;
        }

        private static int highest(int letter) {
            switch (letter) {
                case 'p':
                    return 9;
                case 's':
                    return 63;
                default:
                    return 99;
            }
        }

        /** What a C or an E comes to; REFUSED, it is 0: the one does not hold then, the other is 0. */
        private int run(int from) {
            isRefused = false;
            top = 0;
            int at = from;
            // Every step leads ahead, so there are no more than these.
            for (int k = 0; k < steps; k++) {
                if (at < 0 || at >= steps || signs[at] == END) {
                    break;
                }
                at = take(at);
                if (isRefused) {
                    return 0;
                }
            }
            return pop();
        }

        /** Takes one step and answers the next one's place. */
        private int take(int at) {
            int sign = signs[at];
            if (sign == NUMBER) {
                push(values[at]);
            } else if (sign == LETTER) {
                push(valueOf(values[at]));
            } else if (sign == '!') {
                push(pop() == 0 ? 1 : 0);
            } else if (sign == '|' || sign == '&') {
                return skipOrGoOn(at);
            } else {
                int right = pop();
                int left = pop();
                push(reckon(sign, left, right));
            }
            return at + 1;
        }

        /** What stands behind a | matters only if what stands ahead of it does not hold; & likewise. */
        private int skipOrGoOn(int at) {
            int ahead = pop();
            boolean isSettled = signs[at] == '|' ? ahead != 0 : ahead == 0;
            if (isSettled) {
                push(ahead);
                return values[at];
            }
            return at + 1;
        }

        private int reckon(int sign, int left, int right) {
            switch (sign) {
                case '+':
                    return left + right;
                case '-':
                    return left - right;
                case '*':
                    return left * right;
                case '<':
                    return left < right ? 1 : 0;
                case '>':
                    return left > right ? 1 : 0;
                case '=':
                    return left == right ? 1 : 0;
                default:
                    break;
            }
            if (right == 0) {
                isRefused = true;
                return 0;
            }
            return sign == '/' ? left / right : left % right;
        }

        private int valueOf(int letter) {
            if (road == null || dot < 0 || dot >= road.dots) {
                return 0;
            }
            switch (letter) {
                case 'i':
                    return dot;
                case 'n':
                    return road.dots;
                case 'k':
                    return road.kerb[dot];
                case 'h':
                    return road.height[dot];
                case 'w':
                    return road.wear[dot];
                case 't':
                    return minute;
                case 'c':
                    return dot == 0 ? 0 : Math.abs(road.kerb[dot] - road.kerb[dot - 1]);
                case 'a':
                    return party;
                case 'r':
                    return rain;
                default:
                    return 0;
            }
        }

        private void push(int value) {
            if (top < STACK) {
                stack[top] = value;
                top++;
            }
        }

        private int pop() {
            if (top <= 0) {
                return 0;
            }
            top--;
            return stack[top];
        }
    }

    /** Reads the TEXT of THE LAW; every method answers whether there is no FAULT up to its end. */
    private static final class LawReader {
        private int[] text = NO_TEXT;
        private int size = 0;
        private int at = 0;
        private int fault = 0;
        /** Not the one in force: that one stays if there is a FAULT; else the two change places. */
        Law law = new Law();

        /** 0, or the FAULT's number below 0. */
        int read(int[] bytes, int n) {
            text = bytes;
            size = Math.min(n, bytes.length);
            at = 0;
            fault = 0;
            law.clear();
            for (int k = 0; k <= MOST_CLAUSES; k++) {
                if (!readClause(k) || at >= size || !expect(';')) {
                    break;
                }
            }
            return fault;
        }

        private boolean readClause(int before) {
            int letter = peek();
            if (letter != 'p' && letter != 'd' && letter != 's' && letter != 'o' && letter != 'l') {
                return fail(1);
            }
            if (before >= MOST_CLAUSES) {
                return fail(4);
            }
            at++;
            law.beginClause(letter);
            if (!readSum(0) || !expect('(')) {
                return false;
            }
            law.add(Law.END, 0);
            law.beginCondition();
            if (!readParts(1) || !expect(')')) {
                return false;
            }
            law.add(Law.END, 0);
            return true;
        }

        /** A C. */
        private boolean readParts(int open) {
            boolean isFine = readPart(open);
            for (int k = 0; k < MOST_LAW_TEXT && isFine && peek() == '|'; k++) {
                at++;
                int step = law.add('|', 0);
                isFine = readPart(open);
                law.leadHere(step);
            }
            return isFine;
        }

        private boolean readPart(int open) {
            boolean isFine = readPiece(open);
            for (int k = 0; k < MOST_LAW_TEXT && isFine && peek() == '&'; k++) {
                at++;
                int step = law.add('&', 0);
                isFine = readPiece(open);
                law.leadHere(step);
            }
            return isFine;
        }

        private boolean readPiece(int open) {
            if (peek() == '!') {
                if (!mayOpen(open) || !readPiece(open + 1)) {
                    return false;
                }
                law.add('!', 0);
                return true;
            }
            if (peek() == '(') {
                return mayOpen(open) && readParts(open + 1) && expect(')');
            }
            if (!readSum(open)) {
                return false;
            }
            int sign = peek();
            if (sign != '<' && sign != '>' && sign != '=') {
                return fail(1);
            }
            at++;
            if (!readSum(open)) {
                return false;
            }
            law.add(sign, 0);
            return true;
        }

        /** An E. */
        private boolean readSum(int open) {
            boolean isFine = readTerm(open);
            for (int k = 0; k < MOST_LAW_TEXT && isFine && (peek() == '+' || peek() == '-'); k++) {
                int sign = peek();
                at++;
                isFine = readTerm(open);
                law.add(sign, 0);
            }
            return isFine;
        }

        private boolean readTerm(int open) {
            boolean isFine = readFactor(open);
            for (int k = 0; k < MOST_LAW_TEXT && isFine && isTimes(peek()); k++) {
                int sign = peek();
                at++;
                isFine = readFactor(open);
                law.add(sign, 0);
            }
            return isFine;
        }

        private boolean readFactor(int open) {
            int sign = peek();
            if (sign == '[') {
                return mayOpen(open) && readSum(open + 1) && expect(']');
            }
            if (isIn(sign, '0', '9')) {
                return readNumber();
            }
            if (!isValueLetter(sign)) {
                return fail(1);
            }
            at++;
            law.add(Law.LETTER, sign);
            return true;
        }

        private boolean readNumber() {
            int number = 0;
            for (int k = 0; k < 5 && isIn(peek(), '0', '9'); k++) {
                number = number * 10 + peek() - '0';
                at++;
            }
            if (isIn(peek(), '0', '9')) {
                return fail(2);
            }
            law.add(Law.NUMBER, number);
            return true;
        }

        private static boolean isTimes(int sign) {
            return sign == '*' || sign == '/' || sign == '%';
        }

        private static boolean isValueLetter(int sign) {
            switch (sign) {
                case 'i':
                case 'n':
                case 'k':
                case 'h':
                case 'w':
                case 't':
                case 'c':
                case 'a':
                case 'r':
                    return true;
                default:
                    return false;
            }
        }

        /** Goes past one of ( [ ! if not as many as may be are open already. */
        private boolean mayOpen(int open) {
            if (open >= MOST_OPEN) {
                return fail(5);
            }
            at++;
            return true;
        }

        private boolean expect(int sign) {
            if (peek() != sign) {
                return fail(1);
            }
            at++;
            return true;
        }

        private int peek() {
            return at >= 0 && at < size ? text[at] : NONE;
        }

        private boolean fail(int number) {
            fault = -1000 * number - at;
            return false;
        }
    }

    /** How MINUTES go by. */
    private static final class Night {
        private Night() {
        }

        /** Answers how many DOTS were painted. */
        static int pass(Road road, Law law, int n) {
            int painted = 0;
            for (int k = 0; k < n && road.minute < LAST_MINUTE; k++) {
                beginDots(road, law);
                painted += paintDots(road, law);
                drive(road);
                letDewFall(road);
                road.minute++;
            }
            return painted;
        }

        private static void beginDots(Road road, Law law) {
            for (int a = 0; a < PARTIES; a++) {
                if (!road.works[a] || road.paints[a] != NOTHING) {
                    continue;
                }
                int next = road.nextFor(a);
                if (next == NOTHING) {
                    road.works[a] = false;
                } else if (road.conesInUse() < road.coneCount) {
                    road.paints[a] = next;
                    road.minutesLeft[a] = law.ask('p', road, next, road.minute, a, 0);
                }
            }
        }

        private static int paintDots(Road road, Law law) {
            int painted = 0;
            for (int a = 0; a < PARTIES; a++) {
                int i = road.paints[a];
                if (!road.isDot(i)) {
                    continue;
                }
                road.minutesLeft[a]--;
                if (road.minutesLeft[a] > 0) {
                    continue;
                }
                road.paints[a] = NOTHING;
                road.line[i] = road.offsetBy(a, i);
                road.ends[i] = road.minute + 1;
                road.dries[i] = law.ask('d', road, i, road.ends[i], a, 0);
                painted++;
            }
            return painted;
        }

        private static void drive(Road road) {
            for (int c = 0; c < CARS; c++) {
                int gone = road.minute - road.carMinutes[c];
                if (road.carWays[c] == NONE || gone < 0) {
                    continue;
                }
                int i = road.carWays[c] == 0 ? gone : road.dots - 1 - gone;
                if (road.isDot(i) && (road.isWet(i) || road.isBeingPainted(i))) {
                    road.spoil(i, c);
                }
            }
        }

        private static void letDewFall(Road road) {
            if (road.minute != road.dewMinute) {
                return;
            }
            for (int i = 0; i < road.dots; i++) {
                if (road.isWet(i)) {
                    road.spoil(i, BY_DEW);
                }
            }
        }
    }

    /** A bare road painted by both PARTIES, without CARS and DEW, with CONES enough. */
    private static final class Plan {
        private final int[] began = new int[MOST_DOTS];
        private final int[] dryAt = new int[MOST_DOTS];
        private final int[] freeAt = new int[PARTIES];
        int allDry = 0;
        int lastEnd = 0;
        int lastDot = 0;
        /** The highest DOT of PARTY 0, NONE if it paints none. */
        int highestOfFirst = NONE;

        void paint(Road road, Law law, int firstBegins, int secondBegins) {
            freeAt[0] = firstBegins;
            freeAt[1] = secondBegins;
            allDry = 0;
            lastEnd = 0;
            int low = 0;
            int high = road.dots - 1;
            for (int k = 0; k < road.dots; k++) {
                if (freeAt[0] <= freeAt[1]) {
                    paintOne(road, law, 0, low);
                    low++;
                } else {
                    paintOne(road, law, 1, high);
                    high--;
                }
            }
            highestOfFirst = low - 1;
        }

        private void paintOne(Road road, Law law, int party, int i) {
            int from = freeAt[party];
            int end = from + law.ask('p', road, i, from, party, 0);
            freeAt[party] = end;
            began[i] = from;
            dryAt[i] = end + law.ask('d', road, i, end, party, 0);
            allDry = Math.max(allDry, dryAt[i]);
            if (end > lastEnd || end == lastEnd && party == 1) {
                lastEnd = end;
                lastDot = i;
            }
        }

        /** The most in one MINUTE are there in one in which a DOT is begun. */
        int conesNeeded(int dots) {
            int most = 0;
            for (int k = 0; k < dots; k++) {
                int all = 0;
                for (int i = 0; i < dots; i++) {
                    all += began[i] <= began[k] && began[k] < dryAt[i] ? 1 : 0;
                }
                most = Math.max(most, all);
            }
            return most;
        }
    }

    /** Lines that keep to the KERB: SMOOTH, DOTS APART, PINNED. */
    private static final class Fit {
        private static final int OFFSETS = 2 * MOST_SMOOTH + 1;
        private static final int FAR = 1000000;

        /** By offset: how far off the best line is from a DOT on, and from the next one on. */
        private final int[] offHere = new int[OFFSETS];
        private final int[] offBehind = new int[OFFSETS];
        /** By DOT: the lowest of the offsets there from which on a line is off least. */
        private final int[] bestAt = new int[MOST_DOTS];
        /** By DOT: how many DOTS at least are pinned behind it. */
        private final int[] pinsBehind = new int[MOST_DOTS];
        /** The offsets that are SMOOTH, or the DOTS that are PINNED. */
        final int[] chosen = new int[MOST_DOTS];

        /** Answers how far off the line is in all. */
        int makeSmooth(Road road, int g) {
            int last = road.dots - 1;
            for (int i = last; i >= 0; i--) {
                System.arraycopy(offHere, 0, offBehind, 0, OFFSETS);
                for (int x = 0; x < OFFSETS; x++) {
                    int behind = i == last ? 0 : offBehind[nearest(bestAt[i + 1], x, g)];
                    offHere[x] = Math.abs(x - MOST_SMOOTH - road.kerb[i]) + behind;
                }
                bestAt[i] = lowestBest();
            }
            int x = bestAt[0];
            for (int i = 0; i <= last; i++) {
                x = i == 0 ? x : nearest(bestAt[i], x, g);
                chosen[i] = x - MOST_SMOOTH;
            }
            return offHere[bestAt[0]];
        }

        /**
         * Of the offsets that are not more than g from x, the one to go on with: how far off a line is
         * never falls on the way from the best offset to either side.
         */
        private static int nearest(int best, int x, int g) {
            return heldIn(best, x - g, x + g);
        }

        private int lowestBest() {
            int best = 0;
            for (int x = 1; x < OFFSETS; x++) {
                if (offHere[x] < offHere[best]) {
                    best = x;
                }
            }
            return best;
        }

        static int greatestApart(Road road, int e) {
            for (int m = MOST_APART; m > 1; m--) {
                if (fitsApart(road, m, e)) {
                    return m;
                }
            }
            return 1;
        }

        private static boolean fitsApart(Road road, int m, int e) {
            for (int from = 0; from < road.dots - 1; from += Math.max(1, m)) {
                if (!fitsBetween(road, from, Math.min(from + m, road.dots - 1), e)) {
                    return false;
                }
            }
            return true;
        }

        static int offByApart(Road road, int m) {
            int off = 0;
            for (int from = 0; from < road.dots - 1; from += Math.max(1, m)) {
                off += offBetween(road, from, Math.min(from + m, road.dots - 1));
            }
            return off;
        }

        /** Answers how many DOTS are PINNED. */
        int pin(Road road, int e) {
            int last = road.dots - 1;
            pinsBehind[last] = 0;
            for (int i = last - 1; i >= 0; i--) {
                pinsBehind[i] = FAR;
                for (int next = i + 1; next <= last; next++) {
                    if (pinsBehind[next] + 1 < pinsBehind[i] && fitsBetween(road, i, next, e)) {
                        pinsBehind[i] = pinsBehind[next] + 1;
                    }
                }
            }
            int pins = 1;
            chosen[0] = 0;
            for (int i = 1; i <= last; i++) {
                int ahead = chosen[pins - 1];
                if (pinsBehind[i] == pinsBehind[ahead] - 1 && fitsBetween(road, ahead, i, e)) {
                    chosen[pins] = i;
                    pins++;
                }
            }
            return pins;
        }

        int offByPins(Road road, int pins) {
            int off = 0;
            for (int k = 1; k < pins && k < MOST_DOTS; k++) {
                off += offBetween(road, chosen[k - 1], chosen[k]);
            }
            return off;
        }

        private static boolean fitsBetween(Road road, int from, int to, int e) {
            for (int i = from + 1; i < to; i++) {
                if (offAt(road, from, to, i) > e) {
                    return false;
                }
            }
            return true;
        }

        private static int offBetween(Road road, int from, int to) {
            int off = 0;
            for (int i = from + 1; i < to; i++) {
                off += offAt(road, from, to, i);
            }
            return off;
        }

        /** How far a DOT is off the straight line between two others. */
        private static int offAt(Road road, int from, int to, int i) {
            if (to <= from) {
                return 0;
            }
            int rise = (road.kerb[to] - road.kerb[from]) * (i - from) / (to - from);
            return Math.abs(road.kerb[from] + rise - road.kerb[i]);
        }
    }

    /** How far one sees, and how the line is MARKED for it. */
    private static final class Sight {
        private Sight() {
        }

        /**
         * The DOTS that are SEEN on end climb, as lines from the eye, ever steeper: so the one ahead
         * of a DOT alone can hide it.
         */
        static int dotsAhead(Road road, int i, int way, int eye) {
            int step = way == 0 ? 1 : -1;
            int from = road.height[i] + eye;
            int on = 0;
            for (int far = 1; far < MOST_DOTS && road.isDot(i + step * far); far++) {
                int rise = road.height[i + step * far] - from;
                int riseAhead = far == 1 ? 0 : road.height[i + step * (far - 1)] - from;
                if (far > 1 && rise * (far - 1) < riseAhead * far) {
                    break;
                }
                on++;
            }
            return on;
        }

        static boolean suffices(Road road, int i, int way, int eye, int enough) {
            int toTheEnd = way == 0 ? road.dots - 1 - i : i;
            int on = dotsAhead(road, i, way, eye);
            return on >= enough || on == toTheEnd;
        }

        static boolean isBroken(Road road, Law law, int i, int way, int eye) {
            return suffices(road, i, way, eye, law.ask('s', road, i, road.minute, 0, 0));
        }

        static int marking(Road road, Law law, int i, int eye) {
            int forRising = isBroken(road, law, i, 0, eye) ? 1 : 0;
            int forFalling = isBroken(road, law, i, 1, eye) ? 2 : 0;
            return forRising + forFalling;
        }
    }

    /** One lane with LIGHTS, and the cars that come to it. */
    private static final class Lane {
        private int cars = 0;
        private final int[] came = new int[MOST_WAITING];
        private final int[] side = new int[MOST_WAITING];
        private final int[] freeAt = new int[2];

        /** Answers whether there are such cars. */
        boolean take(int[] bytes, int n) {
            cars = 0;
            for (int k = 0; k < n && k < MOST_WAITING && 2 * k + 1 < bytes.length; k++) {
                came[k] = bytes[2 * k];
                side[k] = bytes[2 * k + 1];
                if (!isIn(side[k], 0, 1) || k > 0 && came[k] < came[k - 1]) {
                    return false;
                }
                cars++;
            }
            return true;
        }

        int bestGreen(int red) {
            int best = 1;
            int fewest = waits(1, red);
            for (int g = 2; g <= MOST_GREEN; g++) {
                int all = waits(g, red);
                if (all < fewest) {
                    best = g;
                    fewest = all;
                }
            }
            return best;
        }

        /** The MINUTES that all wait together. */
        int waits(int green, int red) {
            freeAt[0] = 0;
            freeAt[1] = 0;
            int all = 0;
            for (int k = 0; k < cars; k++) {
                int end = side[k] == 0 ? 0 : 1;
                int goes = nextGreen(Math.max(came[k], freeAt[end]), end, green, red);
                freeAt[end] = goes + 1;
                all += goes - came[k];
            }
            return all;
        }

        /** The first MINUTE from one on in which an end has green. */
        private static int nextGreen(int from, int end, int green, int red) {
            int round = Math.max(1, 2 * (green + red));
            int firstGreen = end == 0 ? 0 : green + red;
            int into = Math.floorMod(from - firstGreen, round);
            return into < green ? from : from + round - into;
        }
    }

    /** What a driver believes, and who drove over THE LINE. */
    private static final class Driver {
        private static final int OLD = 1;
        private static final int NEW = 2;

        private final boolean[] isLost = new boolean[MOST_DOTS];
        int suspects = 0;
        int firstMinute = NOTHING;
        int firstWay = NOTHING;

        static int belief(Road road, Law law, int i, boolean rain) {
            int rains = rain ? 1 : 0;
            int plainOld = road.oldLine[i] == BARE ? 0 : law.ask('o', road, i, road.minute, 0, rains);
            int plainNew = road.isPainted(i) ? law.ask('l', road, i, road.minute, 0, rains) : 0;
            if (road.isSpoilt(i)) {
                plainNew /= 2;
            }
            if (plainOld == 0 && plainNew == 0) {
                return 0;
            }
            if (plainOld == plainNew) {
                return road.isSpoilt(i) ? OLD : NEW;
            }
            return plainOld > plainNew ? OLD : NEW;
        }

        /** Answers how many DOTS are LOST. */
        int findLost(Road road, Law law, int by, boolean rain) {
            int all = 0;
            for (int i = 0; i < road.dots; i++) {
                int due = road.isPainted(i) ? road.line[i] : road.kerb[i];
                isLost[i] = belief(road, law, i, rain) == OLD && Math.abs(road.oldLine[i] - due) > by;
                all += isLost[i] ? 1 : 0;
            }
            return all;
        }

        int lostIn(int start, int length) {
            int all = 0;
            for (int i = start; i < start + length && i < MOST_DOTS; i++) {
                all += isLost[i] ? 1 : 0;
            }
            return all;
        }

        /** Looks for all twos of a MINUTE and a way by which just the DOTS were hit that are. */
        void suspect(Road road) {
            suspects = 0;
            firstMinute = NOTHING;
            firstWay = NOTHING;
            for (int way = 0; way <= 1; way++) {
                suspectOneWay(road, way);
            }
        }

        /**
         * A car hits a DOT if it sets out in one of some MINUTES on end: so what fits lies in all of
         * those of the DOTS that were hit, and the others' are gone past one after another.
         */
        private void suspectOneWay(Road road, int way) {
            int from = 0;
            int till = road.minute;
            for (int i = 0; i < road.dots; i++) {
                if (isHitByCar(road, i)) {
                    int first = hitsFrom(road, i, way);
                    from = Math.max(from, first);
                    till = Math.min(till, first + road.dries[i] - 1);
                }
            }
            for (int k = 0; k <= 2 * MOST_DOTS && from <= till; k++) {
                int free = freeFrom(road, way, from);
                int next = nextHit(road, way, free, till);
                if (next > free) {
                    note(free, way, next - free);
                }
                from = Math.max(free, next);
            }
        }

        private void note(int when, int way, int twos) {
            if (suspects == 0 || when < firstMinute) {
                firstMinute = when;
                firstWay = way;
            }
            suspects += twos;
        }

        private static boolean isHitByCar(Road road, int i) {
            return road.isPainted(i) && isIn(road.spoiltBy[i], 0, CARS - 1);
        }

        /** Whether a DOT would have to be wet no more, or not yet, as a car came by. */
        private static boolean mustBeSpared(Road road, int i) {
            return road.isPainted(i) && !isHitByCar(road, i) && road.dries[i] > 0;
        }

        /** The first MINUTE of those in which a car must set out to hit a DOT: as many as d. */
        private static int hitsFrom(Road road, int i, int way) {
            return road.ends[i] - (way == 0 ? i : road.dots - 1 - i);
        }

        /** A MINUTE behind all that hit a DOT to be spared and in which that one lies. */
        private static int freeFrom(Road road, int way, int when) {
            int free = when;
            for (int i = 0; i < road.dots; i++) {
                int first = hitsFrom(road, i, way);
                if (mustBeSpared(road, i) && isIn(when, first, first + road.dries[i] - 1)) {
                    free = Math.max(free, first + road.dries[i]);
                }
            }
            return free;
        }

        /** The first MINUTE from one on in which a DOT to be spared is hit, or the one behind the last. */
        private static int nextHit(Road road, int way, int when, int till) {
            int next = till + 1;
            for (int i = 0; i < road.dots; i++) {
                int first = hitsFrom(road, i, way);
                if (mustBeSpared(road, i) && when < first + road.dries[i]) {
                    next = Math.min(next, Math.max(when, first));
                }
            }
            return next;
        }
    }

    /** Stretches of the road that are RENEWED FIRST. */
    private static final class Stretches {
        /** By number of stretches and DOT: the most WEAR in so many from that DOT on; NONE: no room. */
        private final int[][] most = new int[MOST_STRETCHES + 1][MOST_DOTS + 1];
        final int[] starts = new int[MOST_STRETCHES];

        /** Answers the WEAR in all. */
        int choose(Road road, int m, int length) {
            for (int k = 0; k <= m && k <= MOST_STRETCHES; k++) {
                for (int i = road.dots; i >= 0; i--) {
                    most[k][i] = k == 0 ? 0 : mostFrom(road, k, i, length);
                }
            }
            int left = m;
            int at = 0;
            for (int k = 0; k < road.dots && left > 0 && at < road.dots; k++) {
                int withThis = mostBegunAt(road, left, at, length);
                if (withThis >= 0 && withThis == most[left][at]) {
                    starts[m - left] = at;
                    left--;
                    at += length;
                } else {
                    at++;
                }
            }
            return most[m][0];
        }

        private int mostFrom(Road road, int k, int i, int length) {
            int later = i < road.dots ? most[k][i + 1] : NONE;
            return Math.max(later, mostBegunAt(road, k, i, length));
        }

        private int mostBegunAt(Road road, int k, int i, int length) {
            if (k < 1 || i + length > road.dots || most[k - 1][i + length] < 0) {
                return NONE;
            }
            int sum = most[k - 1][i + length];
            for (int x = i; x < i + length; x++) {
                sum += road.wear[x];
            }
            return sum;
        }
    }
}
