import java.util.Arrays;

/**
 * Sirens on carousels, heard far off by moving hearers, with walls and cones of shock.
 * What each method must do stands in the document, by numbered promises.
 */
public final class SirenFair {
    public static final int NONE = -1;

    private static final int REMEMBERED_LIMIT = 14;
    private static final int SLOTS = 2;
    private static final int LONGEST_SIREN_IN = 1000;
    private static final int LONGEST_HEARD_IN = 200;
    /** POWERS[n] is the first number with more than 5 * n digits. */
    private static final long[] POWERS = {1L, 100000L, 10000000000L, 1000000000000000L};

    private final FairText text;
    private final Field present;
    /** What load starts from; never changed. */
    private final Field blank;
    /** The copy on which is tried what would be. */
    private final Field trial;
    /** The states before the latest actions, as a ring of rows. */
    private final Field[] remembered;
    private int oldestRemembered;
    private int rememberedCount;
    private final Field[] saved;
    private final boolean[] isSaved;

    // Promise 1
    public SirenFair() {
        text = new FairText();
        present = new Field();
        blank = new Field();
        trial = new Field();
        remembered = new Field[REMEMBERED_LIMIT];
        for (int i = 0; i < REMEMBERED_LIMIT; i++) {
            remembered[i] = new Field();
        }
        saved = new Field[SLOTS];
        for (int i = 0; i < SLOTS; i++) {
            saved[i] = new Field();
        }
        isSaved = new boolean[SLOTS];
    }

    // ---- text

    // Promise 2
    public int append(int c) throws IllegalArgumentException, IllegalStateException {
        if (!isWithin(c, 0, 255)) {
            throw new IllegalArgumentException("c is not 0 to 255");
        }
        if (text.length >= FairText.LIMIT) {
            throw new IllegalStateException("the text is full");
        }
        return text.add((char) c);
    }

    // Promise 3
    public int clearText() {
        int previous = text.length;
        text.length = 0;
        return previous;
    }

    // Promise 4
    public int errorPosition() {
        return text.firstError();
    }

    // Promise 5
    public int load() throws IllegalStateException {
        if (text.firstError() != NONE) {
            throw new IllegalStateException("the text is not a fair");
        }
        present.copyFrom(blank);
        forgetRemembered();
        for (int i = 0; i < SLOTS; i++) {
            isSaved[i] = false;
        }
        int leftOut = 0;
        text.toFirstCommand();
        for (int i = 0; i < FairText.LIMIT && text.at < text.length && text.readCommand(); i++) {
            if (!obeys(present, text.letter, text.numbers)) {
                leftOut++;
            }
        }
        return leftOut;
    }

    /** Does a command of the text, whose numbers are in their ranges; false if it is left out. */
    private static boolean obeys(Field field, int letter, int[] n) {
        if (n.length < FairText.NUMBERS) {
            return false;
        }
        switch (letter) {
            case 's':
                return field.sirens.add(n[0] - 40, n[1] - 40, n[2], n[3] - 3, n[4]) != NONE;
            case 'h':
                return field.hearers.add(n[0] - 40, n[1] - 40, n[2] - 2, n[3] - 2) != NONE;
            case 'w':
                return field.walls.add(n[0] == 'u', n[1] - 40) != NONE;
            case 'o':
                return field.sirens.turnTo(n[0], n[1] == '+');
            case 'c':
                field.speedOfSound = n[0];
                return true;
            case 't':
                field.pass(n[0]);
                return true;
            default:
                return false;
        }
    }

    // ---- what there is

    // Promise 6
    public int about(int what) throws IllegalArgumentException {
        switch (what) {
            case 0: return present.sirens.count;
            case 1: return present.hearers.count;
            case 2: return present.walls.count;
            case 3: return present.time;
            case 4: return present.pulses.count;
            case 5: return present.given;
            case 6: return present.ears.allDirect;
            case 7: return present.ears.allEchoes;
            case 8: return present.ears.allLate;
            case 9: return present.hearers.allBeats;
            default: throw new IllegalArgumentException("what is not 0 to 9");
        }
    }

    // Promise 7
    public int sirenOf(int s, int what) throws IndexOutOfBoundsException, IllegalArgumentException {
        Sirens sirens = present.sirens;
        if (!sirens.has(s)) {
            throw new IndexOutOfBoundsException("no such siren");
        }
        switch (what) {
            case 0: return sirens.x[s];
            case 1: return sirens.y[s];
            case 2: return sirens.r[s];
            case 3: return sirens.speed[s];
            case 4: return sirens.period[s];
            case 5: return sirens.on[s] ? 1 : 0;
            case 6: return sirens.place[s];
            case 7: return sirens.placeX(s);
            case 8: return sirens.placeY(s);
            case 9: return Math.abs(sirens.speed[s]) > present.speedOfSound ? 1 : 0;
            default: throw new IllegalArgumentException("what is not 0 to 9");
        }
    }

    // Promise 8
    public int hearerOf(int h, int what) throws IndexOutOfBoundsException, IllegalArgumentException {
        Hearers hearers = present.hearers;
        if (!hearers.has(h)) {
            throw new IndexOutOfBoundsException("no such hearer");
        }
        switch (what) {
            case 0: return hearers.x[h];
            case 1: return hearers.y[h];
            case 2: return hearers.vx[h];
            case 3: return hearers.vy[h];
            case 4: return hearers.beats[h];
            case 5: return present.sirens.nearestTo(hearers.x[h], hearers.y[h]);
            default: throw new IllegalArgumentException("what is not 0 to 5");
        }
    }

    // Promise 9
    public int wallOf(int w, int what) throws IndexOutOfBoundsException, IllegalArgumentException {
        Walls walls = present.walls;
        if (!walls.has(w)) {
            throw new IndexOutOfBoundsException("no such wall");
        }
        switch (what) {
            case 0: return walls.upright[w] ? 1 : 0;
            case 1: return walls.at[w];
            default: throw new IllegalArgumentException("what is neither 0 nor 1");
        }
    }

    // Promise 10
    public int pulse(int k, int what) throws IndexOutOfBoundsException, IllegalArgumentException {
        Pulses pulses = present.pulses;
        if (k < 0 || k >= pulses.count) {
            throw new IndexOutOfBoundsException("no such pulse");
        }
        int row = pulses.rowOf(k);
        switch (what) {
            case 0: return pulses.siren[row];
            case 1: return pulses.x[row];
            case 2: return pulses.y[row];
            case 3: return pulses.tick[row];
            case 4: return pulses.wall[row];
            case 5: return pulses.heardBy[row];
            default: throw new IllegalArgumentException("what is not 0 to 5");
        }
    }

    // Promise 11
    public int heard(int h, int s, int what) throws IndexOutOfBoundsException, IllegalArgumentException {
        if (!present.hasPair(h, s)) {
            throw new IndexOutOfBoundsException("no such hearer or siren");
        }
        int pair = Ears.pairOf(h, s);
        switch (what) {
            case 0: return present.ears.direct[pair];
            case 1: return present.ears.echoes[pair];
            case 2: return present.ears.late[pair];
            case 3: return present.ears.latestTick[pair];
            case 4: return present.ears.pause[pair];
            case 5: return present.soundOf(h, s);
            default: throw new IllegalArgumentException("what is not 0 to 5");
        }
    }

    // ---- actions

    // Promise 12
    public int siren(int x, int y, int r, int speed, int period)
            throws IllegalArgumentException, IllegalStateException {
        if (!isWithin(x, -30, 30) || !isWithin(y, -30, 30)) {
            throw new IllegalArgumentException("the centre is out of its range");
        }
        if (!isWithin(r, 1, 5) || !isWithin(speed, -3, 3) || !isWithin(period, 1, 20)) {
            throw new IllegalArgumentException("r, speed or period is out of its range");
        }
        if (present.sirens.count >= Sirens.LIMIT) {
            throw new IllegalStateException("there are 4 sirens");
        }
        remember();
        return present.sirens.add(x, y, r, speed, period);
    }

    // Promise 13
    public int hearer(int x, int y, int vx, int vy) throws IllegalArgumentException, IllegalStateException {
        if (!isWithin(x, -40, 40) || !isWithin(y, -40, 40)) {
            throw new IllegalArgumentException("the place is out of its range");
        }
        if (!isWithin(vx, -2, 2) || !isWithin(vy, -2, 2)) {
            throw new IllegalArgumentException("vx or vy is out of its range");
        }
        if (present.hearers.count >= Hearers.LIMIT) {
            throw new IllegalStateException("there are 4 hearers");
        }
        remember();
        return present.hearers.add(x, y, vx, vy);
    }

    // Promise 14
    public int wall(boolean upright, int at) throws IllegalArgumentException, IllegalStateException {
        if (!isWithin(at, -40, 40)) {
            throw new IllegalArgumentException("at is out of its range");
        }
        if (present.walls.count >= Walls.LIMIT) {
            throw new IllegalStateException("there are 3 walls");
        }
        remember();
        return present.walls.add(upright, at);
    }

    // Promise 15
    public int turn(int s, boolean on) throws IndexOutOfBoundsException {
        if (!present.sirens.has(s)) {
            throw new IndexOutOfBoundsException("no such siren");
        }
        remember();
        present.sirens.turnTo(s, on);
        return present.sirens.howManyOn();
    }

    // Promise 16
    public int walk(int h, int vx, int vy) throws IndexOutOfBoundsException, IllegalArgumentException {
        if (!present.hearers.has(h)) {
            throw new IndexOutOfBoundsException("no such hearer");
        }
        if (!isWithin(vx, -2, 2) || !isWithin(vy, -2, 2)) {
            throw new IllegalArgumentException("vx or vy is out of its range");
        }
        remember();
        present.hearers.send(h, vx, vy);
        return present.hearers.x[h];
    }

    // Promise 17
    public int ticks(int n) throws IllegalArgumentException {
        if (!isWithin(n, 1, 99)) {
            throw new IllegalArgumentException("n is not 1 to 99");
        }
        remember();
        int before = present.ears.allDirect + present.ears.allEchoes;
        present.pass(n);
        return present.ears.allDirect + present.ears.allEchoes - before;
    }

    // Promise 18
    public int set(int what, int v) throws IllegalArgumentException {
        if (!Field.isSetting(what, v)) {
            throw new IllegalArgumentException("what or v is out of its range");
        }
        remember();
        return present.change(what, v);
    }

    // Promise 19
    public int undo() throws IllegalStateException {
        if (rememberedCount <= 0) {
            throw new IllegalStateException("no state is remembered");
        }
        rememberedCount--;
        present.copyFrom(remembered[(oldestRemembered + rememberedCount) % REMEMBERED_LIMIT]);
        return rememberedCount;
    }

    private void remember() {
        if (rememberedCount >= REMEMBERED_LIMIT) {
            oldestRemembered = (oldestRemembered + 1) % REMEMBERED_LIMIT;
            rememberedCount--;
        }
        remembered[(oldestRemembered + rememberedCount) % REMEMBERED_LIMIT].copyFrom(present);
        rememberedCount++;
    }

    private void forgetRemembered() {
        oldestRemembered = 0;
        rememberedCount = 0;
    }

    // ---- what would be, if nothing else is done

    // Promise 20
    public int sirenIn(int s, int n, int way) throws IndexOutOfBoundsException, IllegalArgumentException {
        if (!present.sirens.has(s)) {
            throw new IndexOutOfBoundsException("no such siren");
        }
        if (!isWithin(n, 0, LONGEST_SIREN_IN) || !isWithin(way, 0, 1)) {
            throw new IllegalArgumentException("n or way is out of its range");
        }
        return way == 0 ? present.sirens.placeTickByTick(s, n) : present.sirens.placeAtOnce(s, n);
    }

    // Promise 21
    public int heardIn(int h, int s) throws IndexOutOfBoundsException {
        if (!present.hasPair(h, s)) {
            throw new IndexOutOfBoundsException("no such hearer or siren");
        }
        trial.copyFrom(present);
        int pair = Ears.pairOf(h, s);
        int before = trial.ears.direct[pair];
        for (int n = 1; n <= LONGEST_HEARD_IN; n++) {
            trial.tick();
            if (trial.ears.direct[pair] > before) {
                return n;
            }
        }
        return NONE;
    }

    // Promise 22
    public int quietIn() {
        trial.copyFrom(present);
        trial.sirens.turnAllOff();
        int n = 0;
        while (n < Field.LONGEST_LASTING && trial.pulses.count > 0) {
            trial.tick();
            n++;
        }
        return n;
    }

    // Promise 23
    public int leastSpeed(int n) throws IllegalArgumentException {
        if (!isWithin(n, 1, 99)) {
            throw new IllegalArgumentException("n is not 1 to 99");
        }
        for (int v = 1; v <= Field.FASTEST_SOUND; v++) {
            trial.copyFrom(present);
            trial.speedOfSound = v;
            if (!trial.isLateWithin(n)) {
                return v;
            }
        }
        return NONE;
    }

    // ---- scripts, simulations

    // Promise 24
    public int runScript(int n, long script) throws IllegalArgumentException {
        if (!isWithin(n, 1, 3)) {
            throw new IllegalArgumentException("n is not 1 to 3");
        }
        if (script < 0 || script >= POWERS[n]) {
            throw new IllegalArgumentException("script is below 0 or has too many digits");
        }
        trial.copyFrom(present);
        for (int i = 0; i < n; i++) {
            int group = (int) (script / POWERS[n - 1 - i] % POWERS[1]);
            if (!succeeds(trial, group)) {
                return i;
            }
        }
        return NONE;
    }

    /** Does a command of a script, five decimal digits; false if it fails. */
    private static boolean succeeds(Field field, int group) {
        int d2 = group / 1000 % 10;
        int d3 = group / 100 % 10;
        int d4 = group / 10 % 10;
        int d5 = group % 10;
        int lastTwo = group % 100;
        switch (group / 10000) {
            case 1:
                if (d2 != 0 || d3 != 0 || lastTwo < 1) {
                    return false;
                }
                field.pass(lastTwo);
                return true;
            case 2:
                return d3 == 0 && d4 == 0 && d5 <= 1 && field.sirens.turnTo(d2, d5 == 1);
            case 3:
                return d5 == 0 && d3 <= 4 && d4 <= 4 && field.hearers.send(d2, d3 - 2, d4 - 2);
            case 4:
                if (d3 != 0 || !Field.isSetting(d2, lastTwo)) {
                    return false;
                }
                field.change(d2, lastTwo);
                return true;
            case 5:
                return field.hasPair(d2, d3) && field.ears.direct[Ears.pairOf(d2, d3)] >= lastTwo;
            case 6:
                return d2 == 0 && d3 == 0 && field.pulses.count <= lastTwo;
            case 7:
                return d3 == 0 && field.hearers.has(d2) && field.hearers.beats[d2] >= lastTwo;
            case 8:
                return d3 == 0 && field.sirens.has(d2) && field.sirens.place[d2] == lastTwo;
            case 9:
                return d4 == 0 && field.hasPair(d2, d3) && field.soundOf(d2, d3) == d5;
            default:
                return false;
        }
    }

    // Promise 25
    public int simulate(long seed, int m) throws IllegalArgumentException {
        if (!isWithin(m, 1, 60)) {
            throw new IllegalArgumentException("m is not 1 to 60");
        }
        trial.copyFrom(present);
        int directBefore = trial.ears.allDirect;
        int lateBefore = trial.ears.allLate;
        long x = seed;
        for (int i = 0; i < m; i++) {
            x = x * 6364136223846793005L + 1442695040888963407L;
            takeTurn(trial, (int) (x >>> 33));
        }
        int direct = trial.ears.allDirect - directBefore;
        int late = trial.ears.allLate - lateBefore;
        return 10000 * (direct % 10000) + 100 * (late % 100) + trial.pulses.count;
    }

    /** Does what a turn of a simulation draws by r; what would throw is left out by the field itself. */
    private static void takeTurn(Field field, int r) {
        int q = r / 8;
        switch (r % 8) {
            case 0:
                field.sirens.add(q % 61 - 30, q / 64 % 61 - 30, 1 + q / 4096 % 5, q / 32768 % 7 - 3,
                        1 + q / 262144 % 20);
                break;
            case 1:
                field.hearers.add(q % 81 - 40, q / 128 % 81 - 40, q / 16384 % 5 - 2, q / 131072 % 5 - 2);
                break;
            case 2:
                field.walls.add(q % 2 == 1, q / 2 % 81 - 40);
                break;
            case 3:
                field.sirens.turnTo(q % 4, q / 4 % 2 == 1);
                break;
            case 4:
                field.speedOfSound = 1 + q % 9;
                break;
            default:
                field.pass(1 + q % 12);
                break;
        }
    }

    // ---- save slots

    // Promise 26
    public int save(int slot) throws IndexOutOfBoundsException {
        if (!isWithin(slot, 0, SLOTS - 1)) {
            throw new IndexOutOfBoundsException("no such save slot");
        }
        saved[slot].copyFrom(present);
        isSaved[slot] = true;
        return present.time;
    }

    // Promise 27
    public int restore(int slot) throws IndexOutOfBoundsException, IllegalStateException {
        if (!isWithin(slot, 0, SLOTS - 1)) {
            throw new IndexOutOfBoundsException("no such save slot");
        }
        if (!isSaved[slot]) {
            throw new IllegalStateException("nothing is saved in the slot");
        }
        present.copyFrom(saved[slot]);
        forgetRemembered();
        return present.time;
    }

    private static boolean isWithin(int value, int low, int high) {
        return value >= low && value <= high;
    }

    /** One state: all that there is but the text and the save slots. */
    private static final class Field {
        static final int FASTEST_SOUND = 9;
        static final int LONGEST_LASTING = 99;

        final Sirens sirens = new Sirens();
        final Hearers hearers = new Hearers();
        final Walls walls = new Walls();
        final Pulses pulses = new Pulses();
        final Ears ears = new Ears();
        int time;
        int given;
        int speedOfSound = 3;
        int lasting = 40;

        void copyFrom(Field other) {
            sirens.copyFrom(other.sirens);
            hearers.copyFrom(other.hearers);
            walls.copyFrom(other.walls);
            pulses.copyFrom(other.pulses);
            ears.copyFrom(other.ears);
            time = other.time;
            given = other.given;
            speedOfSound = other.speedOfSound;
            lasting = other.lasting;
        }

        boolean hasPair(int h, int s) {
            return hearers.has(h) && sirens.has(s);
        }

        static boolean isSetting(int what, int v) {
            return what == 0 && isWithin(v, 1, FASTEST_SOUND) || what == 1 && isWithin(v, 1, LONGEST_LASTING);
        }

        /** Sets a setting and answers the previous value. */
        int change(int what, int v) {
            int previous = what == 0 ? speedOfSound : lasting;
            if (what == 0) {
                speedOfSound = v;
            } else {
                lasting = v;
            }
            return previous;
        }

        /** Whether a siren sounds higher (1), lower (2) or as it is (0) to a hearer. */
        int soundOf(int h, int s) {
            if (!hasPair(h, s)) {
                return NONE;
            }
            int pause = ears.pause[Ears.pairOf(h, s)];
            if (pause == NONE) {
                return NONE;
            }
            int period = sirens.period[s];
            return pause < period ? 1 : pause > period ? 2 : 0;
        }

        void pass(int n) {
            for (int i = 0; i < n; i++) {
                tick();
            }
        }

        boolean isLateWithin(int n) {
            int before = ears.allLate;
            for (int i = 0; i < n && ears.allLate == before; i++) {
                tick();
            }
            return ears.allLate > before;
        }

        void tick() {
            time++;
            sirens.goOn();
            hearers.walkOn();
            for (int s = 0; s < sirens.count; s++) {
                if (sirens.isDue(s, time)) {
                    givePulses(s);
                }
            }
            hearPulses();
            hearers.countBeats();
        }

        private void givePulses(int s) {
            int x = sirens.placeX(s);
            int y = sirens.placeY(s);
            give(s, x, y, NONE);
            for (int w = 0; w < walls.count; w++) {
                int at = walls.at[w];
                if (walls.upright[w] && x != at) {
                    give(s, 2 * at - x, y, w);
                } else if (!walls.upright[w] && y != at) {
                    give(s, x, 2 * at - y, w);
                }
            }
        }

        private void give(int s, int x, int y, int w) {
            pulses.add(s, x, y, time, w);
            given++;
        }

        private void hearPulses() {
            int kept = 0;
            for (int k = 0; k < pulses.count; k++) {
                int row = pulses.rowOf(k);
                hearPulse(row);
                if (!isGone(row)) {
                    pulses.move(row, pulses.rowOf(kept));
                    kept++;
                }
            }
            pulses.count = kept;
        }

        private void hearPulse(int row) {
            int s = pulses.siren[row];
            int x = pulses.x[row];
            int y = pulses.y[row];
            int w = pulses.wall[row];
            int age = time - pulses.tick[row];
            for (int h = 0; h < hearers.count; h++) {
                if ((pulses.heardBy[row] >> h & 1) == 1 || hearers.wayTo(h, x, y) > speedOfSound * age) {
                    continue;
                }
                if (w == NONE) {
                    pulses.heardBy[row] |= 1 << h;
                    ears.hearDirect(Ears.pairOf(h, s), pulses.tick[row], time);
                    hearers.sirensNow[h] |= 1 << s;
                } else if (walls.isBetween(w, x, y, hearers.x[h], hearers.y[h])) {
                    pulses.heardBy[row] |= 1 << h;
                    ears.hearEcho(Ears.pairOf(h, s));
                }
            }
        }

        private boolean isGone(int row) {
            int everyone = (1 << hearers.count) - 1;
            return hearers.count > 0 && pulses.heardBy[row] == everyone || time - pulses.tick[row] >= lasting;
        }
    }

    /** The sirens, a row for each. */
    private static final class Sirens {
        static final int LIMIT = 4;

        final int[] x = new int[LIMIT];
        final int[] y = new int[LIMIT];
        final int[] r = new int[LIMIT];
        final int[] speed = new int[LIMIT];
        final int[] period = new int[LIMIT];
        final int[] place = new int[LIMIT];
        final boolean[] on = new boolean[LIMIT];
        int count;

        void copyFrom(Sirens other) {
            count = other.count;
            System.arraycopy(other.x, 0, x, 0, LIMIT);
            System.arraycopy(other.y, 0, y, 0, LIMIT);
            System.arraycopy(other.r, 0, r, 0, LIMIT);
            System.arraycopy(other.speed, 0, speed, 0, LIMIT);
            System.arraycopy(other.period, 0, period, 0, LIMIT);
            System.arraycopy(other.place, 0, place, 0, LIMIT);
            System.arraycopy(other.on, 0, on, 0, LIMIT);
        }

        boolean has(int s) {
            return s >= 0 && s < count;
        }

        /** Answers the new siren's number; NONE if there are too many. */
        int add(int atX, int atY, int halfSide, int itsSpeed, int itsPeriod) {
            if (count >= LIMIT) {
                return NONE;
            }
            x[count] = atX;
            y[count] = atY;
            r[count] = halfSide;
            speed[count] = itsSpeed;
            period[count] = itsPeriod;
            place[count] = 0;
            on[count] = true;
            count++;
            return count - 1;
        }

        /** False if there is no such siren. */
        boolean turnTo(int s, boolean isOn) {
            if (!has(s)) {
                return false;
            }
            on[s] = isOn;
            return true;
        }

        void turnAllOff() {
            for (int s = 0; s < count; s++) {
                on[s] = false;
            }
        }

        int howManyOn() {
            int many = 0;
            for (int s = 0; s < count; s++) {
                if (on[s]) {
                    many++;
                }
            }
            return many;
        }

        void goOn() {
            for (int s = 0; s < count; s++) {
                if (on[s]) {
                    place[s] = nextPlace(s, place[s]);
                }
            }
        }

        /** The place behind one tick: no speed is as great as the smallest ring, 8. */
        private int nextPlace(int s, int from) {
            int ring = 8 * r[s];
            int to = from + speed[s];
            if (to < 0) {
                return to + ring;
            }
            return to >= ring ? to - ring : to;
        }

        int placeTickByTick(int s, int n) {
            int at = place[s];
            for (int i = 0; i < n && on[s]; i++) {
                at = nextPlace(s, at);
            }
            return at;
        }

        int placeAtOnce(int s, int n) {
            int ring = 8 * r[s];
            if (!on[s] || ring <= 0) {
                return place[s];
            }
            return Math.floorMod(place[s] + n * speed[s], ring);
        }

        boolean isDue(int s, int time) {
            return on[s] && period[s] > 0 && time % period[s] == 0;
        }

        int placeX(int s) {
            int side = 2 * r[s];
            int at = place[s];
            int west = x[s] - r[s];
            if (at <= side) {
                return west + at;
            }
            if (at <= 2 * side) {
                return west + side;
            }
            return at <= 3 * side ? west + 3 * side - at : west;
        }

        int placeY(int s) {
            int side = 2 * r[s];
            int at = place[s];
            int north = y[s] - r[s];
            if (at <= side) {
                return north;
            }
            if (at <= 2 * side) {
                return north + at - side;
            }
            return at <= 3 * side ? north + side : north + 4 * side - at;
        }

        int nearestTo(int toX, int toY) {
            int nearest = NONE;
            int shortest = 0;
            for (int s = 0; s < count; s++) {
                int way = Math.abs(placeX(s) - toX) + Math.abs(placeY(s) - toY);
                if (nearest == NONE || way < shortest) {
                    nearest = s;
                    shortest = way;
                }
            }
            return nearest;
        }
    }

    /** The hearers, a row for each. */
    private static final class Hearers {
        static final int LIMIT = 4;
        static final int EDGE = 40;

        final int[] x = new int[LIMIT];
        final int[] y = new int[LIMIT];
        final int[] vx = new int[LIMIT];
        final int[] vy = new int[LIMIT];
        final int[] beats = new int[LIMIT];
        /** Sets of the sirens heard directly in this tick; empty between ticks, so never copied. */
        final int[] sirensNow = new int[LIMIT];
        int count;
        int allBeats;

        void copyFrom(Hearers other) {
            count = other.count;
            allBeats = other.allBeats;
            System.arraycopy(other.x, 0, x, 0, LIMIT);
            System.arraycopy(other.y, 0, y, 0, LIMIT);
            System.arraycopy(other.vx, 0, vx, 0, LIMIT);
            System.arraycopy(other.vy, 0, vy, 0, LIMIT);
            System.arraycopy(other.beats, 0, beats, 0, LIMIT);
        }

        boolean has(int h) {
            return h >= 0 && h < count;
        }

        /** Answers the new hearer's number; NONE if there are too many. */
        int add(int atX, int atY, int byX, int byY) {
            if (count >= LIMIT) {
                return NONE;
            }
            x[count] = atX;
            y[count] = atY;
            vx[count] = byX;
            vy[count] = byY;
            beats[count] = 0;
            count++;
            return count - 1;
        }

        /** False if there is no such hearer. */
        boolean send(int h, int byX, int byY) {
            if (!has(h)) {
                return false;
            }
            vx[h] = byX;
            vy[h] = byY;
            return true;
        }

        void walkOn() {
            for (int h = 0; h < count; h++) {
                int toX = x[h] + vx[h];
                int toY = y[h] + vy[h];
                if (isOutside(toX)) {
                    vx[h] = -vx[h];
                }
                if (isOutside(toY)) {
                    vy[h] = -vy[h];
                }
                x[h] = Math.max(-EDGE, Math.min(EDGE, toX));
                y[h] = Math.max(-EDGE, Math.min(EDGE, toY));
            }
        }

        private static boolean isOutside(int coordinate) {
            return coordinate < -EDGE || coordinate > EDGE;
        }

        int wayTo(int h, int fromX, int fromY) {
            return Math.abs(x[h] - fromX) + Math.abs(y[h] - fromY);
        }

        void countBeats() {
            for (int h = 0; h < count; h++) {
                if (Integer.bitCount(sirensNow[h]) >= 2) {
                    beats[h]++;
                    allBeats++;
                }
                sirensNow[h] = 0;
            }
        }
    }

    /** The walls, a row for each. */
    private static final class Walls {
        static final int LIMIT = 3;

        final boolean[] upright = new boolean[LIMIT];
        final int[] at = new int[LIMIT];
        int count;

        void copyFrom(Walls other) {
            count = other.count;
            System.arraycopy(other.upright, 0, upright, 0, LIMIT);
            System.arraycopy(other.at, 0, at, 0, LIMIT);
        }

        boolean has(int w) {
            return w >= 0 && w < count;
        }

        /** Answers the new wall's number; NONE if there are too many. */
        int add(boolean isUpright, int itsPlace) {
            if (count >= LIMIT) {
                return NONE;
            }
            upright[count] = isUpright;
            at[count] = itsPlace;
            count++;
            return count - 1;
        }

        /**
         * Whether a wall stands between a mirrored place and a hearer, who then is on the side
         * of the place that was mirrored, and not on the wall.
         */
        boolean isBetween(int w, int x, int y, int hearerX, int hearerY) {
            if (w < 0 || w >= count) {
                return false;
            }
            int mirrored = upright[w] ? x : y;
            int hearer = upright[w] ? hearerX : hearerY;
            return mirrored < at[w] && hearer > at[w] || mirrored > at[w] && hearer < at[w];
        }
    }

    /** The pulses, as a ring of rows from the oldest one on. */
    private static final class Pulses {
        static final int LIMIT = 60;

        final int[] siren = new int[LIMIT];
        final int[] x = new int[LIMIT];
        final int[] y = new int[LIMIT];
        final int[] tick = new int[LIMIT];
        final int[] wall = new int[LIMIT];
        final int[] heardBy = new int[LIMIT];
        int oldest;
        int count;

        void copyFrom(Pulses other) {
            oldest = other.oldest;
            count = other.count;
            System.arraycopy(other.siren, 0, siren, 0, LIMIT);
            System.arraycopy(other.x, 0, x, 0, LIMIT);
            System.arraycopy(other.y, 0, y, 0, LIMIT);
            System.arraycopy(other.tick, 0, tick, 0, LIMIT);
            System.arraycopy(other.wall, 0, wall, 0, LIMIT);
            System.arraycopy(other.heardBy, 0, heardBy, 0, LIMIT);
        }

        /** The row of the pulse k, from 0 for the oldest one. */
        int rowOf(int k) {
            return (oldest + k) % LIMIT;
        }

        /** Adds a pulse that nobody has heard; the oldest one of too many goes. */
        void add(int itsSiren, int atX, int atY, int time, int itsWall) {
            if (count >= LIMIT) {
                oldest = rowOf(1);
                count--;
            }
            int row = rowOf(count);
            siren[row] = itsSiren;
            x[row] = atX;
            y[row] = atY;
            tick[row] = time;
            wall[row] = itsWall;
            heardBy[row] = 0;
            count++;
        }

        void move(int from, int to) {
            if (from == to) {
                return;
            }
            siren[to] = siren[from];
            x[to] = x[from];
            y[to] = y[from];
            tick[to] = tick[from];
            wall[to] = wall[from];
            heardBy[to] = heardBy[from];
        }
    }

    /** What each hearer heard of each siren, a row for each pair. */
    private static final class Ears {
        static final int PAIRS = Hearers.LIMIT * Sirens.LIMIT;

        final int[] direct = new int[PAIRS];
        final int[] echoes = new int[PAIRS];
        final int[] late = new int[PAIRS];
        final int[] latestTick = new int[PAIRS];
        final int[] pause = new int[PAIRS];
        /** The latest tick when a direct pulse was given that was heard. */
        final int[] latestGiven = new int[PAIRS];
        int allDirect;
        int allEchoes;
        int allLate;

        Ears() {
            Arrays.fill(latestTick, NONE);
            Arrays.fill(pause, NONE);
            Arrays.fill(latestGiven, NONE);
        }

        void copyFrom(Ears other) {
            allDirect = other.allDirect;
            allEchoes = other.allEchoes;
            allLate = other.allLate;
            System.arraycopy(other.direct, 0, direct, 0, PAIRS);
            System.arraycopy(other.echoes, 0, echoes, 0, PAIRS);
            System.arraycopy(other.late, 0, late, 0, PAIRS);
            System.arraycopy(other.latestTick, 0, latestTick, 0, PAIRS);
            System.arraycopy(other.pause, 0, pause, 0, PAIRS);
            System.arraycopy(other.latestGiven, 0, latestGiven, 0, PAIRS);
        }

        static int pairOf(int h, int s) {
            return h * Sirens.LIMIT + s;
        }

        void hearEcho(int pair) {
            echoes[pair]++;
            allEchoes++;
        }

        void hearDirect(int pair, int given, int time) {
            direct[pair]++;
            allDirect++;
            if (given < latestGiven[pair]) {
                late[pair]++;
                allLate++;
            } else {
                latestGiven[pair] = given;
            }
            if (latestTick[pair] != NONE) {
                pause[pair] = time - latestTick[pair];
            }
            latestTick[pair] = time;
        }
    }

    /** The text buffer, and a reader that goes through it from left to right. */
    private static final class FairText {
        static final int LIMIT = 120;
        static final int NUMBERS = 5;

        final char[] signs = new char[LIMIT];
        int length;
        /** The index of the next character to be read; where a reading fails, it stays. */
        int at;
        /** The command that was read last, and what stood behind it, numbers as they are written. */
        int letter;
        final int[] numbers = new int[NUMBERS];

        /** Answers the new length, the old one if the text is full. */
        int add(char sign) {
            if (length < LIMIT) {
                signs[length] = sign;
                length++;
            }
            return length;
        }

        int firstError() {
            at = 0;
            if (!isNext('U')) {
                return at;
            }
            toFirstCommand();
            boolean isAllowed = true;
            for (int i = 0; i < LIMIT && isAllowed && at < length; i++) {
                isAllowed = readCommand();
            }
            return isAllowed ? NONE : at;
        }

        /** Goes behind the letter U, with which a fair begins. */
        void toFirstCommand() {
            at = 1;
        }

        /** False if the text breaks the rules at its next character, or ends too soon. */
        boolean readCommand() {
            letter = next();
            at++;
            switch (letter) {
                case 's':
                    return readTwo(0, 10, 70) && readTwo(1, 10, 70) && readOne(2, 1, 5) && readOne(3, 0, 6)
                            && readTwo(4, 1, 20);
                case 'h':
                    return readTwo(0, 0, 80) && readTwo(1, 0, 80) && readOne(2, 0, 4) && readOne(3, 0, 4);
                case 'w':
                    return readEither(0, 'u', 'l') && readTwo(1, 0, 80);
                case 'o':
                    return readOne(0, 0, 3) && readEither(1, '+', '-');
                case 'c':
                    return readOne(0, 1, 9);
                case 't':
                    return readTwo(0, 1, 99);
                default:
                    at--;
                    return false;
            }
        }

        /** The next character, NONE at the end. */
        private int next() {
            if (at < 0 || at >= length || at >= LIMIT) {
                return NONE;
            }
            return signs[at];
        }

        private boolean isNext(char sign) {
            return next() == sign;
        }

        /** The next digit, NONE if there is none or it is not within low and high. */
        private int nextDigit(int low, int high) {
            int digit = next() - '0';
            return digit >= 0 && digit <= 9 && digit >= low && digit <= high ? digit : NONE;
        }

        private boolean readOne(int slot, int low, int high) {
            int digit = nextDigit(low, high);
            if (digit == NONE || slot < 0 || slot >= NUMBERS) {
                return false;
            }
            numbers[slot] = digit;
            at++;
            return true;
        }

        private boolean readTwo(int slot, int low, int high) {
            int tens = nextDigit(low / 10, high / 10);
            if (tens == NONE || slot < 0 || slot >= NUMBERS) {
                return false;
            }
            at++;
            int ones = nextDigit(low - 10 * tens, high - 10 * tens);
            if (ones == NONE) {
                return false;
            }
            numbers[slot] = 10 * tens + ones;
            at++;
            return true;
        }

        private boolean readEither(int slot, char one, char other) {
            if (!isNext(one) && !isNext(other) || slot < 0 || slot >= NUMBERS) {
                return false;
            }
            numbers[slot] = next();
            at++;
            return true;
        }
    }
}
