/** Promises 12 to 19: the actions and undo. */
public final class ActionsTest {
    private static final int[] FAR = {Integer.MIN_VALUE, -1000, 1000, Integer.MAX_VALUE};

    public static void main(String[] args) {
        siren();
        hearer();
        wall();
        turn();
        walk();
        ticks();
        set();
        undo();
        undoRing();
        Check.end();
    }

    private static void siren() {
        int[] low = {-30, -30, 1, -3, 1};
        int[] high = {30, 30, 5, 3, 20};
        SirenFair fair = new SirenFair();
        Check.due("12: lowest", () -> fair.siren(-30, -30, 1, -3, 1), 0);
        Check.due("12: highest", () -> fair.siren(30, 30, 5, 3, 20), 1);
        for (int i = 0; i < 5; i++) {
            refusedSiren(fair, i, low[i] - 1);
            refusedSiren(fair, i, high[i] + 1);
            for (int far : FAR) {
                refusedSiren(fair, i, far);
            }
            int what = i;
            Check.due("12: low " + i, () -> fair.sirenOf(0, what), low[i]);
            Check.due("12: high " + i, () -> fair.sirenOf(1, what), high[i]);
        }
        Check.due("12: on", () -> fair.sirenOf(1, 5), 1);
        Check.due("12: at place 0", () -> fair.sirenOf(1, 6), 0);
        Check.due("12: x there", () -> fair.sirenOf(1, 7), 25);
        Check.due("12: y there", () -> fair.sirenOf(1, 8), 25);
        Check.due("12: third", () -> fair.siren(0, 0, 1, 0, 1), 2);
        Check.due("12: fourth", () -> fair.siren(0, 0, 1, 0, 1), 3);
        Check.thrown("12: fifth", () -> fair.siren(0, 0, 1, 0, 1), Check.STATE);
        Check.thrown("12: fifth out of range", () -> fair.siren(0, 0, 0, 0, 1), Check.ARGUMENT);
        Check.due("12: four", () -> fair.about(0), 4);
    }

    private static void refusedSiren(SirenFair fair, int which, int v) {
        int[] a = {0, 0, 1, 0, 1};
        a[which] = v;
        Check.thrown("12: argument " + which + " is " + v, () -> fair.siren(a[0], a[1], a[2], a[3], a[4]),
                Check.ARGUMENT);
    }

    private static void hearer() {
        int[] low = {-40, -40, -2, -2};
        int[] high = {40, 40, 2, 2};
        SirenFair fair = new SirenFair();
        Check.due("13: lowest", () -> fair.hearer(-40, -40, -2, -2), 0);
        Check.due("13: highest", () -> fair.hearer(40, 40, 2, 2), 1);
        for (int i = 0; i < 4; i++) {
            refusedHearer(fair, i, low[i] - 1);
            refusedHearer(fair, i, high[i] + 1);
            for (int far : FAR) {
                refusedHearer(fair, i, far);
            }
            int what = i;
            Check.due("13: low " + i, () -> fair.hearerOf(0, what), low[i]);
            Check.due("13: high " + i, () -> fair.hearerOf(1, what), high[i]);
        }
        Check.due("13: third", () -> fair.hearer(0, 0, 0, 0), 2);
        Check.due("13: fourth", () -> fair.hearer(0, 0, 0, 0), 3);
        Check.thrown("13: fifth", () -> fair.hearer(0, 0, 0, 0), Check.STATE);
        Check.thrown("13: fifth out of range", () -> fair.hearer(0, 0, 0, 3), Check.ARGUMENT);
        Check.due("13: four", () -> fair.about(1), 4);
    }

    private static void refusedHearer(SirenFair fair, int which, int v) {
        int[] a = {0, 0, 0, 0};
        a[which] = v;
        Check.thrown("13: argument " + which + " is " + v, () -> fair.hearer(a[0], a[1], a[2], a[3]), Check.ARGUMENT);
    }

    private static void wall() {
        SirenFair fair = new SirenFair();
        Check.thrown("14: -41", () -> fair.wall(true, -41), Check.ARGUMENT);
        Check.thrown("14: 41", () -> fair.wall(false, 41), Check.ARGUMENT);
        for (int far : FAR) {
            Check.thrown("14: " + far, () -> fair.wall(true, far), Check.ARGUMENT);
        }
        Check.due("14: first", () -> fair.wall(true, -40), 0);
        Check.due("14: second", () -> fair.wall(false, 40), 1);
        Check.due("14: third, as the first", () -> fair.wall(true, -40), 2);
        Check.thrown("14: fourth", () -> fair.wall(true, 0), Check.STATE);
        Check.thrown("14: fourth out of range", () -> fair.wall(true, 41), Check.ARGUMENT);
        Check.due("14: three", () -> fair.about(2), 3);
    }

    private static void turn() {
        SirenFair fair = new SirenFair();
        Check.thrown("15: no siren", () -> fair.turn(0, true), Check.BOUNDS);
        fair.siren(0, 0, 1, 1, 2);
        fair.siren(0, 0, 1, 1, 3);
        fair.siren(0, 0, 1, 1, 5);
        Check.due("15: on already", () -> fair.turn(1, true), 3);
        Check.due("15: off", () -> fair.turn(1, false), 2);
        Check.due("15: off again", () -> fair.turn(1, false), 2);
        Check.due("15: it is off", () -> fair.sirenOf(1, 5), 0);
        Check.due("15: the next is on", () -> fair.sirenOf(2, 5), 1);
        fair.ticks(6);
        Check.due("15: off, it stands", () -> fair.sirenOf(1, 6), 0);
        Check.due("15: off, it gives none", () -> fair.about(5), 4);
        Check.due("15: on", () -> fair.turn(1, true), 3);
        fair.ticks(3);
        Check.due("15: on, it goes on from there", () -> fair.sirenOf(1, 6), 3);
        Check.due("15: and gives by the time", () -> fair.about(5), 6);
        Check.thrown("15: siren 3", () -> fair.turn(3, false), Check.BOUNDS);
        Check.thrown("15: siren -1", () -> fair.turn(-1, false), Check.BOUNDS);
        for (int far : FAR) {
            Check.thrown("15: siren " + far, () -> fair.turn(far, true), Check.BOUNDS);
        }
    }

    private static void walk() {
        SirenFair fair = new SirenFair();
        Check.thrown("16: no hearer", () -> fair.walk(0, 0, 0), Check.BOUNDS);
        fair.hearer(7, 8, 0, 0);
        fair.hearer(-9, 3, 1, 1);
        Check.due("16: its x", () -> fair.walk(0, 2, -2), 7);
        Check.due("16: the other's x", () -> fair.walk(1, -2, 2), -9);
        fair.ticks(2);
        Check.due("16: x then", () -> fair.hearerOf(0, 0), 11);
        Check.due("16: y then", () -> fair.hearerOf(0, 1), 4);
        Check.due("16: the other's y", () -> fair.hearerOf(1, 1), 7);
        int[] refused = {-3, 3, Integer.MIN_VALUE, Integer.MAX_VALUE};
        for (int v : refused) {
            Check.thrown("16: vx " + v, () -> fair.walk(0, v, 0), Check.ARGUMENT);
            Check.thrown("16: vy " + v, () -> fair.walk(0, 0, v), Check.ARGUMENT);
            Check.thrown("16: hearer and vx " + v, () -> fair.walk(2, v, 0), Check.BOUNDS);
            Check.thrown("16: hearer -1 and vy " + v, () -> fair.walk(-1, 0, v), Check.BOUNDS);
        }
        Check.due("16: as it was", () -> fair.hearerOf(0, 2), 2);
        Check.due("16: vy as it was", () -> fair.hearerOf(0, 3), -2);
    }

    private static void ticks() {
        SirenFair fair = new SirenFair();
        for (int n : new int[] {Integer.MIN_VALUE, -1, 0, 100, Integer.MAX_VALUE}) {
            Check.thrown("17: " + n, () -> fair.ticks(n), Check.ARGUMENT);
        }
        Check.due("17: 1", () -> fair.ticks(1), 0);
        Check.due("17: 99", () -> fair.ticks(99), 0);
        Check.due("17: the time", () -> fair.about(3), 100);
        fair.siren(0, 0, 1, 0, 10);
        fair.wall(true, 0);
        fair.hearer(-1, -1, 0, 0);
        fair.hearer(-1, -1, 0, 0);
        Check.due("17: direct ones and echoes, by both", () -> fair.ticks(21), 8);
        Check.due("17: direct ones", () -> fair.about(6), 4);
        Check.due("17: echoes", () -> fair.about(7), 4);
    }

    private static void set() {
        SirenFair fair = new SirenFair();
        Check.due("18: sound from 3 to 1", () -> fair.set(0, 1), 3);
        Check.due("18: sound from 1 to 9", () -> fair.set(0, 9), 1);
        Check.due("18: the same", () -> fair.set(0, 9), 9);
        Check.due("18: lasting from 40 to 99", () -> fair.set(1, 99), 40);
        Check.due("18: lasting from 99 to 1", () -> fair.set(1, 1), 99);
        int[][] refused = {{0, 0}, {0, 10}, {0, -1}, {1, 0}, {1, 100}, {1, -1}, {2, 1}, {-1, 1},
            {Integer.MAX_VALUE, 1}, {Integer.MIN_VALUE, 1}, {0, Integer.MAX_VALUE}, {1, Integer.MIN_VALUE}};
        for (int[] r : refused) {
            Check.thrown("18: " + r[0] + " " + r[1], () -> fair.set(r[0], r[1]), Check.ARGUMENT);
        }
        Check.due("18: sound as it was", () -> fair.set(0, 2), 9);
        Check.due("18: lasting as it was", () -> fair.set(1, 2), 1);
    }

    private static void undo() {
        SirenFair fair = new SirenFair();
        Check.thrown("19: none", () -> fair.undo(), Check.STATE);
        fair.ticks(5);
        fair.ticks(6);
        fair.append('U');
        fair.save(0);
        Check.due("19: one is left", () -> fair.undo(), 1);
        Check.due("19: the time", () -> fair.about(3), 5);
        Check.due("19: none is left", () -> fair.undo(), 0);
        Check.due("19: the time at first", () -> fair.about(3), 0);
        Check.thrown("19: none any more", () -> fair.undo(), Check.STATE);
        Check.due("19: the text stays", () -> fair.clearText(), 1);
        Check.due("19: the slot stays", () -> fair.restore(0), 11);
        Check.thrown("19: undo is no action, restore forgets", () -> fair.undo(), Check.STATE);
    }

    private static void undoRing() {
        SirenFair fair = new SirenFair();
        for (int i = 1; i <= 40; i++) {
            fair.ticks(1);
        }
        for (int i = 13; i >= 0; i--) {
            int left = i;
            Check.due("19: of 14", () -> fair.undo(), left);
            Check.due("19: back to", () -> fair.about(3), 26 + left);
        }
        Check.thrown("19: the oldest are forgotten", () -> fair.undo(), Check.STATE);
        for (int round = 0; round < 20; round++) {
            fair.set(0, 1);
            fair.ticks(2);
            fair.ticks(3);
            fair.undo();
            fair.undo();
            Check.due("19: again and again", () -> fair.about(3), 26);
        }
        for (int i = 11; i >= 0; i--) {
            int left = i;
            Check.due("19: two of 14 were taken back", () -> fair.undo(), left);
        }
        Check.thrown("19: no more", () -> fair.undo(), Check.STATE);
    }
}
