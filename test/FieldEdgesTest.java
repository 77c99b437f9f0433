/** The sentences of "The field" and "Settings" that name a bound or a first value, one method for each. */
public final class FieldEdgesTest {
    public static void main(String[] args) {
        timeIsZeroAtFirst();
        fourSirensFromZero();
        centreFromMinus30To30();
        halfSideFrom1To5();
        speedFromMinus3To3();
        periodFrom1To20();
        onAtFirstAtPlaceZero();
        ringHasEightTimesRPlaces();
        cornersOfTheRing();
        fourHearersFromZero();
        hearerFromMinus40To40();
        walksByMinus2To2();
        threeWallsFromZero();
        wallFromMinus40To40();
        soundFrom1To9();
        lastingFrom1To99();
        Check.end();
    }

    private interface OfValue {
        int answer(SirenFair fair, int value);
    }

    /** All values from low to high are taken, and the two beyond are refused. */
    private static void takes(String name, int low, int high, OfValue call) {
        for (int v = low; v <= high; v++) {
            int value = v;
            SirenFair fair = new SirenFair();
            Check.due(name + " may be " + v, () -> call.answer(fair, value), 0);
        }
        for (int v : new int[] {low - 1, high + 1}) {
            SirenFair fair = new SirenFair();
            Check.thrown(name + " may not be " + v, () -> call.answer(fair, v), Check.ARGUMENT);
            Check.thrown("and no action is remembered", () -> fair.undo(), Check.STATE);
        }
    }

    private static void timeIsZeroAtFirst() {
        SirenFair fair = new SirenFair();
        Check.due("the time at first", () -> fair.about(3), 0);
        fair.ticks(1);
        Check.due("the time behind a tick", () -> fair.about(3), 1);
    }

    private static void fourSirensFromZero() {
        SirenFair fair = new SirenFair();
        for (int i = 0; i < 4; i++) {
            int n = i;
            Check.thrown("siren " + n + " is not there yet", () -> fair.sirenOf(n, 0), Check.BOUNDS);
            Check.due("a new siren", () -> fair.siren(n, 0, 1, 0, 1), n);
            Check.due("siren " + n + " is there", () -> fair.sirenOf(n, 0), n);
        }
        Check.thrown("a fifth siren", () -> fair.siren(4, 0, 1, 0, 1), Check.STATE);
        Check.thrown("siren 4", () -> fair.sirenOf(4, 0), Check.BOUNDS);
        Check.thrown("siren -1", () -> fair.sirenOf(-1, 0), Check.BOUNDS);
        Check.due("undo of the fourth", () -> fair.undo(), 3);
        Check.due("makes room for another", () -> fair.siren(9, 0, 1, 0, 1), 3);
        Check.due("which is there", () -> fair.sirenOf(3, 0), 9);
    }

    private static void centreFromMinus30To30() {
        takes("x of a centre", -30, 30, (f, v) -> f.siren(v, 0, 1, 0, 1));
        takes("y of a centre", -30, 30, (f, v) -> f.siren(0, v, 1, 0, 1));
        for (int v = -30; v <= 30; v += 60) {
            int at = v;
            SirenFair fair = new SirenFair();
            fair.siren(at, -at, 5, 0, 1);
            Check.due("x of a centre", () -> fair.sirenOf(0, 0), at);
            Check.due("y of a centre", () -> fair.sirenOf(0, 1), -at);
            Check.due("x of its place, which may be below -30", () -> fair.sirenOf(0, 7), at - 5);
            Check.due("y of its place", () -> fair.sirenOf(0, 8), -at - 5);
        }
    }

    private static void halfSideFrom1To5() {
        takes("a half side", 1, 5, (f, v) -> f.siren(0, 0, v, 0, 1));
    }

    private static void speedFromMinus3To3() {
        takes("a speed", -3, 3, (f, v) -> f.siren(0, 0, 1, v, 1));
    }

    private static void periodFrom1To20() {
        takes("a period", 1, 20, (f, v) -> f.siren(0, 0, 1, 0, v));
    }

    private static void onAtFirstAtPlaceZero() {
        SirenFair fair = new SirenFair();
        fair.ticks(7);
        fair.siren(0, 0, 3, -2, 1);
        Check.due("on at first", () -> fair.sirenOf(0, 5), 1);
        Check.due("at the place 0 at first, whatever the time", () -> fair.sirenOf(0, 6), 0);
        Check.due("pulses only with the next tick", () -> fair.about(5), 0);
        fair.ticks(1);
        Check.due("then it goes on", () -> fair.sirenOf(0, 6), 22);
        Check.due("and gives a pulse", () -> fair.about(5), 1);
    }

    /** The last place is 8 * r - 1; behind it comes 0, and before 0 comes it, by each speed. */
    private static void ringHasEightTimesRPlaces() {
        for (int r = 1; r <= 5; r++) {
            int ring = 8 * r;
            for (int speed = -3; speed <= 3; speed++) {
                SirenFair fair = new SirenFair();
                fair.siren(0, 0, r, speed, 1);
                int want = 0;
                for (int tick = 0; tick < 2 * ring + 4; tick++) {
                    fair.ticks(1);
                    want += speed;
                    want = want < 0 ? want + ring : want >= ring ? want - ring : want;
                    int place = want;
                    Check.due("half side " + r + ", speed " + speed, () -> fair.sirenOf(0, 6), place);
                }
            }
        }
    }

    private static void cornersOfTheRing() {
        for (int r = 1; r <= 5; r++) {
            SirenFair fair = new SirenFair();
            fair.siren(-8, 11, r, -1, 1);
            int[][] backwards = {{-8 - r, 11 + r}, {-8 + r, 11 + r}, {-8 + r, 11 - r}, {-8 - r, 11 - r}};
            for (int i = 0; i < 4; i++) {
                int[] corner = backwards[i];
                int number = (6 - 2 * i) * r;
                fair.ticks(2 * r);
                Check.due("number of a corner", () -> fair.sirenOf(0, 6), number);
                Check.due("x of the corner " + number, () -> fair.sirenOf(0, 7), corner[0]);
                Check.due("y of the corner " + number, () -> fair.sirenOf(0, 8), corner[1]);
            }
        }
    }

    private static void fourHearersFromZero() {
        SirenFair fair = new SirenFair();
        for (int i = 0; i < 4; i++) {
            int n = i;
            Check.thrown("hearer " + n + " is not there yet", () -> fair.hearerOf(n, 0), Check.BOUNDS);
            Check.due("a new hearer", () -> fair.hearer(n, 0, 1, 0), n);
            Check.due("hearer " + n + " is there", () -> fair.hearerOf(n, 0), n);
        }
        Check.thrown("a fifth hearer", () -> fair.hearer(4, 0, 1, 0), Check.STATE);
        Check.thrown("hearer 4", () -> fair.hearerOf(4, 0), Check.BOUNDS);
        Check.thrown("hearer -1", () -> fair.hearerOf(-1, 0), Check.BOUNDS);
        Check.due("undo of the fourth", () -> fair.undo(), 3);
        Check.due("makes room for another", () -> fair.hearer(9, 0, 1, 0), 3);
        Check.due("which is there", () -> fair.hearerOf(3, 0), 9);
    }

    private static void hearerFromMinus40To40() {
        takes("x of a hearer", -40, 40, (f, v) -> f.hearer(v, 0, 0, 0));
        takes("y of a hearer", -40, 40, (f, v) -> f.hearer(0, v, 0, 0));
    }

    private static void walksByMinus2To2() {
        takes("vx of a new hearer", -2, 2, (f, v) -> f.hearer(0, 0, v, 0));
        takes("vy of a new hearer", -2, 2, (f, v) -> f.hearer(0, 0, 0, v));
        for (int v = -2; v <= 2; v++) {
            int way = v;
            SirenFair fair = new SirenFair();
            fair.hearer(5, 6, 0, 0);
            Check.due("vx of a walk", () -> fair.walk(0, way, 0), 5);
            Check.due("is " + way, () -> fair.hearerOf(0, 2), way);
            Check.due("vy of a walk", () -> fair.walk(0, 0, way), 5);
            Check.due("is " + way + " too", () -> fair.hearerOf(0, 3), way);
        }
        for (int v : new int[] {-3, 3}) {
            SirenFair fair = new SirenFair();
            fair.hearer(5, 6, 1, -1);
            Check.thrown("vx of a walk may not be " + v, () -> fair.walk(0, v, 0), Check.ARGUMENT);
            Check.thrown("vy of a walk may not be " + v, () -> fair.walk(0, 0, v), Check.ARGUMENT);
            Check.due("vx stays", () -> fair.hearerOf(0, 2), 1);
            Check.due("vy stays", () -> fair.hearerOf(0, 3), -1);
        }
    }

    private static void threeWallsFromZero() {
        SirenFair fair = new SirenFair();
        for (int i = 0; i < 3; i++) {
            int n = i;
            Check.thrown("wall " + n + " is not there yet", () -> fair.wallOf(n, 1), Check.BOUNDS);
            Check.due("a new wall", () -> fair.wall(n == 1, n), n);
            Check.due("wall " + n + " is there", () -> fair.wallOf(n, 1), n);
            Check.due("upright or not", () -> fair.wallOf(n, 0), n == 1 ? 1 : 0);
        }
        Check.thrown("a fourth wall", () -> fair.wall(true, 3), Check.STATE);
        Check.thrown("wall 3", () -> fair.wallOf(3, 1), Check.BOUNDS);
        Check.thrown("wall -1", () -> fair.wallOf(-1, 1), Check.BOUNDS);
        Check.due("undo of the third", () -> fair.undo(), 2);
        Check.due("makes room for another", () -> fair.wall(true, 9), 2);
        Check.due("which is there", () -> fair.wallOf(2, 1), 9);
    }

    private static void wallFromMinus40To40() {
        takes("x of a wall", -40, 40, (f, v) -> f.wall(true, v));
        takes("y of a wall", -40, 40, (f, v) -> f.wall(false, v));
    }

    private static void soundFrom1To9() {
        int[] previous = {3};
        SirenFair fair = new SirenFair();
        for (int v = 1; v <= 9; v++) {
            int value = v;
            Check.due("setting 0 becomes " + v, () -> fair.set(0, value), previous[0]);
            previous[0] = v;
        }
        Check.thrown("setting 0 may not be 0", () -> fair.set(0, 0), Check.ARGUMENT);
        Check.thrown("setting 0 may not be 10", () -> fair.set(0, 10), Check.ARGUMENT);
        Check.due("setting 0 stays", () -> fair.set(0, 9), 9);
        Check.due("setting 1 is untouched", () -> fair.set(1, 40), 40);
    }

    private static void lastingFrom1To99() {
        int[] previous = {40};
        SirenFair fair = new SirenFair();
        for (int v = 1; v <= 99; v++) {
            int value = v;
            Check.due("setting 1 becomes " + v, () -> fair.set(1, value), previous[0]);
            previous[0] = v;
        }
        Check.thrown("setting 1 may not be 0", () -> fair.set(1, 0), Check.ARGUMENT);
        Check.thrown("setting 1 may not be 100", () -> fair.set(1, 100), Check.ARGUMENT);
        Check.due("setting 1 stays", () -> fair.set(1, 99), 99);
        Check.due("setting 0 is untouched", () -> fair.set(0, 3), 3);
    }
}
