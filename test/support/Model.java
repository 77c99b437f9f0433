import java.util.ArrayDeque;
import java.util.ArrayList;
import java.util.Deque;
import java.util.List;

/**
 * The document written a second time, by lists of what happened rather than by rows of numbers,
 * to be compared with SirenFair. It copies everything at every action and counts again at every question.
 */
final class Model {
    static final int NONE = -1;

    private static final class Siren {
        int x, y, r, speed, period, place;
        boolean on = true;

        Siren copy() {
            Siren c = new Siren();
            c.x = x;
            c.y = y;
            c.r = r;
            c.speed = speed;
            c.period = period;
            c.place = place;
            c.on = on;
            return c;
        }

        /** Walks round the ring from its north western corner. */
        int[] spot() {
            int[] at = {x - r, y - r};
            int[][] ways = {{1, 0}, {0, 1}, {-1, 0}, {0, -1}};
            for (int i = 0; i < place; i++) {
                int[] way = ways[i / (2 * r)];
                at[0] += way[0];
                at[1] += way[1];
            }
            return at;
        }

        void step() {
            for (int i = 0; i < Math.abs(speed); i++) {
                place += speed > 0 ? 1 : -1;
                if (place < 0) {
                    place = 8 * r - 1;
                } else if (place == 8 * r) {
                    place = 0;
                }
            }
        }
    }

    private record Hearer(int x, int y, int vx, int vy) {
        Hearer step() {
            int nx = x + vx;
            int ny = y + vy;
            boolean outX = nx < -40 || nx > 40;
            boolean outY = ny < -40 || ny > 40;
            return new Hearer(outX ? (nx < 0 ? -40 : 40) : nx, outY ? (ny < 0 ? -40 : 40) : ny,
                    outX ? -vx : vx, outY ? -vy : vy);
        }
    }

    private record Wall(boolean upright, int at) {
        int side(int x, int y) {
            return Integer.signum((upright ? x : y) - at);
        }
    }

    /** fromX and fromY: where the direct pulse spreads. */
    private record Pulse(int siren, int x, int y, int tick, int wall, int fromX, int fromY, List<Integer> heardBy) {
        Pulse copy() {
            return new Pulse(siren, x, y, tick, wall, fromX, fromY, new ArrayList<>(heardBy));
        }
    }

    private record Hearing(int h, int s, boolean direct, int given, int heard, boolean late) {
    }

    private static final class State {
        List<Siren> sirens = new ArrayList<>();
        List<Hearer> hearers = new ArrayList<>();
        List<Wall> walls = new ArrayList<>();
        List<Pulse> pulses = new ArrayList<>();
        List<Hearing> hearings = new ArrayList<>();
        List<int[]> beats = new ArrayList<>();
        int time = 0;
        int given = 0;
        int[] settings = {3, 40};

        State copy() {
            State c = new State();
            sirens.forEach(s -> c.sirens.add(s.copy()));
            c.hearers.addAll(hearers);
            c.walls.addAll(walls);
            pulses.forEach(p -> c.pulses.add(p.copy()));
            c.hearings.addAll(hearings);
            c.beats.addAll(beats);
            c.time = time;
            c.given = given;
            c.settings = settings.clone();
            return c;
        }

        void give(int s, int x, int y, int wall, int fromX, int fromY) {
            if (pulses.size() == 60) {
                pulses.remove(0);
            }
            pulses.add(new Pulse(s, x, y, time, wall, fromX, fromY, new ArrayList<>()));
            given++;
        }

        void tick() {
            time++;
            for (Siren s : sirens) {
                if (s.on) {
                    s.step();
                }
            }
            hearers.replaceAll(Hearer::step);
            for (int i = 0; i < sirens.size(); i++) {
                Siren s = sirens.get(i);
                if (s.on && time % s.period == 0) {
                    int[] at = s.spot();
                    give(i, at[0], at[1], NONE, at[0], at[1]);
                    for (int w = 0; w < walls.size(); w++) {
                        Wall wall = walls.get(w);
                        if (wall.side(at[0], at[1]) != 0) {
                            give(i, wall.upright ? 2 * wall.at - at[0] : at[0],
                                    wall.upright ? at[1] : 2 * wall.at - at[1], w, at[0], at[1]);
                        }
                    }
                }
            }
            for (Pulse p : pulses) {
                for (int h = 0; h < hearers.size(); h++) {
                    hear(p, h);
                }
            }
            for (int h = 0; h < hearers.size(); h++) {
                int hearer = h;
                long many = hearings.stream().filter(e -> e.h == hearer && e.direct && e.heard == time)
                        .map(e -> e.s).distinct().count();
                if (many >= 2) {
                    beats.add(new int[] {h, time});
                }
            }
            pulses.removeIf(p -> !hearers.isEmpty() && p.heardBy.size() == hearers.size()
                    || time - p.tick >= settings[1]);
        }

        void hear(Pulse p, int h) {
            Hearer at = hearers.get(h);
            if (p.heardBy.contains(h)) {
                return;
            }
            if (Math.abs(at.x - p.x) + Math.abs(at.y - p.y) > settings[0] * (time - p.tick)) {
                return;
            }
            if (p.wall != NONE
                    && walls.get(p.wall).side(at.x, at.y) != walls.get(p.wall).side(p.fromX, p.fromY)) {
                return;
            }
            boolean direct = p.wall == NONE;
            boolean late = direct && hearings.stream()
                    .anyMatch(e -> e.direct && e.h == h && e.s == p.siren && e.given > p.tick);
            p.heardBy.add(h);
            hearings.add(new Hearing(h, p.siren, direct, p.tick, time, late));
        }

        int direct() {
            return (int) hearings.stream().filter(e -> e.direct).count();
        }

        int late() {
            return (int) hearings.stream().filter(e -> e.late).count();
        }

        int beatsOf(int h) {
            return (int) beats.stream().filter(b -> b[0] == h).count();
        }

        int heard(int h, int s, int what) {
            List<Hearing> all = hearings.stream().filter(e -> e.h == h && e.s == s).toList();
            List<Hearing> direct = all.stream().filter(e -> e.direct).toList();
            int n = direct.size();
            int pause = n < 2 ? NONE : direct.get(n - 1).heard - direct.get(n - 2).heard;
            switch (what) {
                case 0: return n;
                case 1: return all.size() - n;
                case 2: return (int) direct.stream().filter(e -> e.late).count();
                case 3: return n == 0 ? NONE : direct.get(n - 1).heard;
                case 4: return pause;
                default:
                    int period = sirens.get(s).period;
                    return pause == NONE ? NONE : pause < period ? 1 : pause > period ? 2 : 0;
            }
        }

        int siren(int x, int y, int r, int speed, int period) {
            argument(in(x, -30, 30) && in(y, -30, 30) && in(r, 1, 5) && in(speed, -3, 3) && in(period, 1, 20));
            state(sirens.size() < 4);
            Siren s = new Siren();
            s.x = x;
            s.y = y;
            s.r = r;
            s.speed = speed;
            s.period = period;
            sirens.add(s);
            return sirens.size() - 1;
        }

        int hearer(int x, int y, int vx, int vy) {
            argument(in(x, -40, 40) && in(y, -40, 40) && in(vx, -2, 2) && in(vy, -2, 2));
            state(hearers.size() < 4);
            hearers.add(new Hearer(x, y, vx, vy));
            return hearers.size() - 1;
        }

        int wall(boolean upright, int at) {
            argument(in(at, -40, 40));
            state(walls.size() < 3);
            walls.add(new Wall(upright, at));
            return walls.size() - 1;
        }

        int turn(int s, boolean on) {
            bounds(in(s, 0, sirens.size() - 1));
            sirens.get(s).on = on;
            return (int) sirens.stream().filter(e -> e.on).count();
        }

        int walk(int h, int vx, int vy) {
            bounds(in(h, 0, hearers.size() - 1));
            argument(in(vx, -2, 2) && in(vy, -2, 2));
            Hearer old = hearers.get(h);
            hearers.set(h, new Hearer(old.x, old.y, vx, vy));
            return old.x;
        }

        int ticks(int n) {
            argument(in(n, 1, 99));
            int before = hearings.size();
            for (int i = 0; i < n; i++) {
                tick();
            }
            return hearings.size() - before;
        }

        int set(int what, int v) {
            argument(in(what, 0, 1));
            argument(in(v, 1, what == 0 ? 9 : 99));
            int previous = settings[what];
            settings[what] = v;
            return previous;
        }
    }

    private State now = new State();
    private final Deque<State> remembered = new ArrayDeque<>();
    private final State[] slots = new State[2];
    private String text = "";

    private static boolean in(int v, int low, int high) {
        return v >= low && v <= high;
    }

    private static void argument(boolean holds) {
        if (!holds) {
            throw new IllegalArgumentException();
        }
    }

    private static void bounds(boolean holds) {
        if (!holds) {
            throw new IndexOutOfBoundsException();
        }
    }

    private static void state(boolean holds) {
        if (!holds) {
            throw new IllegalStateException();
        }
    }

    /** Does an action on a copy, so that nothing is different if it throws. */
    private int act(java.util.function.ToIntFunction<State> action) {
        State next = now.copy();
        int answer = action.applyAsInt(next);
        remembered.addLast(now);
        if (remembered.size() > 14) {
            remembered.removeFirst();
        }
        now = next;
        return answer;
    }

    private static boolean tries(State s, java.util.function.ToIntFunction<State> action) {
        try {
            action.applyAsInt(s);
            return true;
        } catch (RuntimeException e) {
            return false;
        }
    }

    int append(int c) {
        argument(in(c, 0, 255));
        state(text.length() < 120);
        text += (char) c;
        return text.length();
    }

    int clearText() {
        int length = text.length();
        text = "";
        return length;
    }

    private static final String PLACE = "([0-7][0-9]|80)";
    private static final String CENTRE = "([1-6][0-9]|70)";
    private static final String COMMAND = "s" + CENTRE + CENTRE + "[1-5][0-6](0[1-9]|1[0-9]|20)"
            + "|h" + PLACE + PLACE + "[0-4][0-4]"
            + "|w[ul]" + PLACE + "|o[0-3][+-]|c[1-9]|t(0[1-9]|[1-9][0-9])";
    private static final java.util.regex.Pattern FAIR = java.util.regex.Pattern.compile("U(" + COMMAND + ")*");

    /** The longest beginning with which some fair begins; then the next character is the error. */
    int errorPosition() {
        if (FAIR.matcher(text).matches()) {
            return NONE;
        }
        for (int i = 0; i < text.length(); i++) {
            java.util.regex.Matcher m = FAIR.matcher(text.substring(0, i + 1));
            if (!m.matches() && !m.hitEnd()) {
                return i;
            }
        }
        return text.length();
    }

    int load() {
        state(errorPosition() == NONE);
        now = new State();
        remembered.clear();
        slots[0] = null;
        slots[1] = null;
        int leftOut = 0;
        java.util.regex.Matcher m = java.util.regex.Pattern.compile(COMMAND).matcher(text);
        int at = 1;
        while (m.find(at)) {
            String c = m.group();
            at = m.end();
            if (!tries(now, s -> command(s, c))) {
                leftOut++;
            }
        }
        return leftOut;
    }

    private static int number(String c, int from, int to) {
        return Integer.parseInt(c.substring(from, to));
    }

    private static int command(State s, String c) {
        switch (c.charAt(0)) {
            case 's':
                return s.siren(number(c, 1, 3) - 40, number(c, 3, 5) - 40, number(c, 5, 6), number(c, 6, 7) - 3,
                        number(c, 7, 9));
            case 'h':
                return s.hearer(number(c, 1, 3) - 40, number(c, 3, 5) - 40, number(c, 5, 6) - 2, number(c, 6, 7) - 2);
            case 'w':
                return s.wall(c.charAt(1) == 'u', number(c, 2, 4) - 40);
            case 'o':
                return s.turn(number(c, 1, 2), c.charAt(2) == '+');
            case 'c':
                return s.set(0, number(c, 1, 2));
            default:
                return s.ticks(number(c, 1, 3));
        }
    }

    int about(int what) {
        argument(in(what, 0, 9));
        return new int[] {now.sirens.size(), now.hearers.size(), now.walls.size(), now.time, now.pulses.size(),
            now.given, now.direct(), now.hearings.size() - now.direct(), now.late(), now.beats.size()}[what];
    }

    int sirenOf(int s, int what) {
        bounds(in(s, 0, now.sirens.size() - 1));
        argument(in(what, 0, 9));
        Siren e = now.sirens.get(s);
        return new int[] {e.x, e.y, e.r, e.speed, e.period, e.on ? 1 : 0, e.place, e.spot()[0], e.spot()[1],
            Math.abs(e.speed) > now.settings[0] ? 1 : 0}[what];
    }

    int hearerOf(int h, int what) {
        bounds(in(h, 0, now.hearers.size() - 1));
        argument(in(what, 0, 5));
        Hearer e = now.hearers.get(h);
        int nearest = NONE;
        for (int way = 0; way < 400 && nearest == NONE; way++) {
            for (int s = now.sirens.size() - 1; s >= 0; s--) {
                int[] at = now.sirens.get(s).spot();
                if (Math.abs(at[0] - e.x) + Math.abs(at[1] - e.y) == way) {
                    nearest = s;
                }
            }
        }
        return new int[] {e.x, e.y, e.vx, e.vy, now.beatsOf(h), nearest}[what];
    }

    int wallOf(int w, int what) {
        bounds(in(w, 0, now.walls.size() - 1));
        argument(in(what, 0, 1));
        return what == 1 ? now.walls.get(w).at : now.walls.get(w).upright ? 1 : 0;
    }

    int pulse(int k, int what) {
        bounds(in(k, 0, now.pulses.size() - 1));
        argument(in(what, 0, 5));
        Pulse p = now.pulses.get(k);
        int set = 0;
        for (int h : p.heardBy) {
            set += 1 << h;
        }
        return new int[] {p.siren, p.x, p.y, p.tick, p.wall, set}[what];
    }

    private void pair(State at, int h, int s) {
        bounds(in(h, 0, at.hearers.size() - 1) && in(s, 0, at.sirens.size() - 1));
    }

    int heard(int h, int s, int what) {
        pair(now, h, s);
        argument(in(what, 0, 5));
        return now.heard(h, s, what);
    }

    int siren(int x, int y, int r, int speed, int period) {
        return act(s -> s.siren(x, y, r, speed, period));
    }

    int hearer(int x, int y, int vx, int vy) {
        return act(s -> s.hearer(x, y, vx, vy));
    }

    int wall(boolean upright, int at) {
        return act(s -> s.wall(upright, at));
    }

    int turn(int s, boolean on) {
        return act(e -> e.turn(s, on));
    }

    int walk(int h, int vx, int vy) {
        return act(s -> s.walk(h, vx, vy));
    }

    int ticks(int n) {
        return act(s -> s.ticks(n));
    }

    int set(int what, int v) {
        return act(s -> s.set(what, v));
    }

    int undo() {
        state(!remembered.isEmpty());
        now = remembered.removeLast();
        return remembered.size();
    }

    int sirenIn(int s, int n, int way) {
        bounds(in(s, 0, now.sirens.size() - 1));
        argument(in(n, 0, 1000) && in(way, 0, 1));
        Siren e = now.sirens.get(s).copy();
        for (int i = 0; i < n && e.on; i++) {
            e.step();
        }
        return e.place;
    }

    int heardIn(int h, int s) {
        pair(now, h, s);
        State copy = now.copy();
        int before = copy.heard(h, s, 0);
        for (int n = 1; n <= 200; n++) {
            copy.tick();
            if (copy.heard(h, s, 0) != before) {
                return n;
            }
        }
        return NONE;
    }

    int quietIn() {
        State copy = now.copy();
        copy.sirens.forEach(s -> s.on = false);
        int n = 0;
        while (!copy.pulses.isEmpty()) {
            copy.tick();
            n++;
        }
        return n;
    }

    int leastSpeed(int n) {
        argument(in(n, 1, 99));
        for (int v = 1; v <= 9; v++) {
            State copy = now.copy();
            copy.settings[0] = v;
            copy.ticks(n);
            if (copy.late() == now.late()) {
                return v;
            }
        }
        return NONE;
    }

    int runScript(int n, long script) {
        argument(in(n, 1, 3) && script >= 0);
        String digits = Long.toString(script);
        argument(digits.length() <= 5 * n);
        digits = "0".repeat(5 * n - digits.length()) + digits;
        State copy = now.copy();
        for (int i = 0; i < n; i++) {
            if (!succeeds(copy, digits.substring(5 * i, 5 * i + 5))) {
                return i;
            }
        }
        return NONE;
    }

    private boolean succeeds(State s, String g) {
        int a = g.charAt(1) - '0';
        int b = g.charAt(2) - '0';
        int c = g.charAt(3) - '0';
        int d = g.charAt(4) - '0';
        int cd = 10 * c + d;
        if (g.matches("100..")) {
            return tries(s, e -> e.ticks(cd));
        } else if (g.matches("2.00[01]")) {
            return tries(s, e -> e.turn(a, d == 1));
        } else if (g.matches("3...0")) {
            return tries(s, e -> e.walk(a, b - 2, c - 2));
        } else if (g.matches("4.0..")) {
            return tries(s, e -> e.set(a, cd));
        } else if (g.matches("5....")) {
            return tries(s, e -> asks(e, a, b, e.hearers.size() > a && e.sirens.size() > b && e.heard(a, b, 0) >= cd));
        } else if (g.matches("600..")) {
            return s.pulses.size() <= cd;
        } else if (g.matches("7.0..")) {
            return a < s.hearers.size() && s.beatsOf(a) >= cd;
        } else if (g.matches("8.0..")) {
            return a < s.sirens.size() && s.sirens.get(a).place == cd;
        } else if (g.matches("9..0.")) {
            return tries(s, e -> asks(e, a, b, e.hearers.size() > a && e.sirens.size() > b && e.heard(a, b, 5) == d));
        }
        return false;
    }

    private int asks(State s, int h, int siren, boolean holds) {
        pair(s, h, siren);
        state(holds);
        return 0;
    }

    int simulate(long seed, int m) {
        argument(in(m, 1, 60));
        State s = now.copy();
        int direct = s.direct();
        int late = s.late();
        long x = seed;
        for (int i = 0; i < m; i++) {
            x = x * 6364136223846793005L + 1442695040888963407L;
            int r = (int) (x >>> 33);
            int q = r / 8;
            int kind = r % 8;
            tries(s, e -> kind == 0
                    ? e.siren(q % 61 - 30, q / 64 % 61 - 30, 1 + q / 4096 % 5, q / 32768 % 7 - 3, 1 + q / 262144 % 20)
                    : kind == 1 ? e.hearer(q % 81 - 40, q / 128 % 81 - 40, q / 16384 % 5 - 2, q / 131072 % 5 - 2)
                    : kind == 2 ? e.wall(q % 2 == 1, q / 2 % 81 - 40)
                    : kind == 3 ? e.turn(q % 4, q / 4 % 2 == 1)
                    : kind == 4 ? e.set(0, 1 + q % 9)
                    : e.ticks(1 + q % 12));
        }
        return 10000 * ((s.direct() - direct) % 10000) + 100 * ((s.late() - late) % 100) + s.pulses.size();
    }

    int save(int slot) {
        bounds(in(slot, 0, 1));
        slots[slot] = now.copy();
        return now.time;
    }

    int restore(int slot) {
        bounds(in(slot, 0, 1));
        state(slots[slot] != null);
        now = slots[slot].copy();
        remembered.clear();
        return now.time;
    }
}
