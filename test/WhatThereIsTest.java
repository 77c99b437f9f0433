/** Promises 6 to 11: what there is, above all which arguments are refused; TickTest has the numbers of ticks. */
public final class WhatThereIsTest {
    private static final int[] FAR = {Integer.MIN_VALUE, -1, 100, Integer.MAX_VALUE};

    public static void main(String[] args) {
        about();
        sirenOf();
        fasterThanSound();
        hearerOf();
        nearestSiren();
        wallOf();
        pulse();
        heard();
        Check.end();
    }

    private static SirenFair one() {
        SirenFair fair = new SirenFair();
        fair.siren(-3, 4, 2, -1, 7);
        fair.hearer(5, -6, 1, -2);
        fair.wall(true, -40);
        fair.ticks(7);
        return fair;
    }

    private static void about() {
        SirenFair fair = one();
        int[] want = {1, 1, 1, 7, 2, 2, 0, 0, 0, 0};
        for (int what = 0; what < 10; what++) {
            int w = what;
            Check.due("6: about " + w, () -> fair.about(w), want[w]);
        }
        Check.thrown("6: about 10", () -> fair.about(10), Check.ARGUMENT);
        for (int far : FAR) {
            Check.thrown("6: about " + far, () -> fair.about(far), Check.ARGUMENT);
        }
    }

    private static void sirenOf() {
        SirenFair fair = one();
        // place 9 of a ring with the corners 0, 4, 8 and 12 is one to the west of the south eastern corner (-1, 6)
        int[] want = {-3, 4, 2, -1, 7, 1, 9, -2, 6, 0};
        for (int what = 0; what < 10; what++) {
            int w = what;
            Check.due("7: sirenOf " + w, () -> fair.sirenOf(0, w), want[w]);
        }
        Check.thrown("7: what 10", () -> fair.sirenOf(0, 10), Check.ARGUMENT);
        Check.thrown("7: siren 1", () -> fair.sirenOf(1, 0), Check.BOUNDS);
        for (int far : FAR) {
            Check.thrown("7: what " + far, () -> fair.sirenOf(0, far), Check.ARGUMENT);
            Check.thrown("7: siren " + far, () -> fair.sirenOf(far, 0), Check.BOUNDS);
            Check.thrown("7: both " + far, () -> fair.sirenOf(far, far), Check.BOUNDS);
        }
    }

    private static void fasterThanSound() {
        for (int sound = 1; sound <= 9; sound++) {
            for (int speed = -3; speed <= 3; speed++) {
                SirenFair fair = new SirenFair();
                fair.set(0, sound);
                fair.siren(0, 0, 1, speed, 1);
                int want = speed > sound || -speed > sound ? 1 : 0;
                Check.due("7: " + speed + " by " + sound, () -> fair.sirenOf(0, 9), want);
            }
        }
    }

    private static void hearerOf() {
        SirenFair fair = one();
        int[] want = {12, -20, 1, -2, 0, 0};
        for (int what = 0; what < 6; what++) {
            int w = what;
            Check.due("8: hearerOf " + w, () -> fair.hearerOf(0, w), want[w]);
        }
        Check.thrown("8: what 6", () -> fair.hearerOf(0, 6), Check.ARGUMENT);
        Check.thrown("8: hearer 1", () -> fair.hearerOf(1, 0), Check.BOUNDS);
        for (int far : FAR) {
            Check.thrown("8: what " + far, () -> fair.hearerOf(0, far), Check.ARGUMENT);
            Check.thrown("8: hearer " + far, () -> fair.hearerOf(far, 0), Check.BOUNDS);
            Check.thrown("8: both " + far, () -> fair.hearerOf(far, far), Check.BOUNDS);
        }
    }

    private static void nearestSiren() {
        SirenFair fair = new SirenFair();
        fair.hearer(0, 0, 0, 0);
        Check.due("8: none", () -> fair.hearerOf(0, 5), -1);
        fair.siren(10, 10, 1, 0, 1);
        Check.due("8: the only one", () -> fair.hearerOf(0, 5), 0);
        fair.siren(-9, -8, 1, 0, 1);
        Check.due("8: (9, 9) is nearer than (-10, -9)", () -> fair.hearerOf(0, 5), 0);
        fair.siren(-8, -8, 1, 0, 1);
        Check.due("8: and as near as (-9, -9): the lowest", () -> fair.hearerOf(0, 5), 0);
        fair.siren(5, 12, 5, 1, 1);
        Check.due("8: by its place (0, 7), not its centre", () -> fair.hearerOf(0, 5), 3);
        fair.ticks(20);
        Check.due("8: by where it is then, (10, 17)", () -> fair.hearerOf(0, 5), 0);
        int[][] corners = {{-20, -20}, {20, -20}, {20, 20}, {-20, 20}};
        SirenFair four = new SirenFair();
        for (int[] corner : corners) {
            four.siren(corner[0], corner[1], 1, 0, 1);
        }
        for (int i = 0; i < 4; i++) {
            int n = i;
            four.hearer(corners[n][0] * 2, corners[n][1] * 2, 0, 0);
            Check.due("8: in the corner " + n, () -> four.hearerOf(n, 5), n);
        }
    }

    private static void wallOf() {
        SirenFair fair = one();
        fair.wall(false, 40);
        Check.due("9: upright", () -> fair.wallOf(0, 0), 1);
        Check.due("9: its x", () -> fair.wallOf(0, 1), -40);
        Check.due("9: level", () -> fair.wallOf(1, 0), 0);
        Check.due("9: its y", () -> fair.wallOf(1, 1), 40);
        Check.thrown("9: what 2", () -> fair.wallOf(0, 2), Check.ARGUMENT);
        Check.thrown("9: wall 2", () -> fair.wallOf(2, 0), Check.BOUNDS);
        for (int far : FAR) {
            Check.thrown("9: what " + far, () -> fair.wallOf(0, far), Check.ARGUMENT);
            Check.thrown("9: wall " + far, () -> fair.wallOf(far, 0), Check.BOUNDS);
            Check.thrown("9: both " + far, () -> fair.wallOf(far, far), Check.BOUNDS);
        }
    }

    private static void pulse() {
        SirenFair fair = one();
        int[][] want = {{0, -2, 6, 7, -1, 0}, {0, -78, 6, 7, 0, 0}};
        for (int k = 0; k < 2; k++) {
            int p = k;
            for (int what = 0; what < 6; what++) {
                int w = what;
                Check.due("10: pulse " + p + " " + w, () -> fair.pulse(p, w), want[p][w]);
            }
        }
        Check.thrown("10: what 6", () -> fair.pulse(0, 6), Check.ARGUMENT);
        Check.thrown("10: pulse 2", () -> fair.pulse(2, 0), Check.BOUNDS);
        for (int far : FAR) {
            Check.thrown("10: what " + far, () -> fair.pulse(0, far), Check.ARGUMENT);
            Check.thrown("10: pulse " + far, () -> fair.pulse(far, 0), Check.BOUNDS);
            Check.thrown("10: both " + far, () -> fair.pulse(far, far), Check.BOUNDS);
        }
    }

    private static void heard() {
        SirenFair fair = one();
        int[] want = {0, 0, 0, -1, -1, -1};
        for (int what = 0; what < 6; what++) {
            int w = what;
            Check.due("11: heard " + w, () -> fair.heard(0, 0, w), want[w]);
        }
        Check.thrown("11: what 6", () -> fair.heard(0, 0, 6), Check.ARGUMENT);
        Check.thrown("11: hearer 1", () -> fair.heard(1, 0, 0), Check.BOUNDS);
        Check.thrown("11: siren 1", () -> fair.heard(0, 1, 0), Check.BOUNDS);
        for (int far : FAR) {
            Check.thrown("11: what " + far, () -> fair.heard(0, 0, far), Check.ARGUMENT);
            Check.thrown("11: hearer " + far, () -> fair.heard(far, 0, far), Check.BOUNDS);
            Check.thrown("11: siren " + far, () -> fair.heard(0, far, far), Check.BOUNDS);
        }
        SirenFair pairs = new SirenFair();
        pairs.siren(-30, 0, 1, 0, 2);
        pairs.siren(30, 0, 1, 0, 5);
        pairs.hearer(-31, -1, 0, 0);
        pairs.hearer(29, -1, 0, 0);
        pairs.ticks(10);
        int[][] direct = {{5, 0}, {0, 2}};
        int[][] latest = {{10, -1}, {-1, 10}};
        int[][] pause = {{2, -1}, {-1, 5}};
        int[][] sound = {{0, -1}, {-1, 0}};
        for (int i = 0; i < 4; i++) {
            int h = i / 2;
            int s = i % 2;
            Check.due("11: direct " + h + " " + s, () -> pairs.heard(h, s, 0), direct[h][s]);
            Check.due("11: latest " + h + " " + s, () -> pairs.heard(h, s, 3), latest[h][s]);
            Check.due("11: pause " + h + " " + s, () -> pairs.heard(h, s, 4), pause[h][s]);
            Check.due("11: sound " + h + " " + s, () -> pairs.heard(h, s, 5), sound[h][s]);
        }
    }
}
