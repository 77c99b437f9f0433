/** The sentences of "A tick" that name an edge, one method for each, and late pulses, pauses and beats. */
public final class TickEdgesTest {
    public static void main(String[] args) {
        sirenGoesOnFromEveryPlace();
        sirenThatIsOffStands();
        hearerTurnsAtTheEdge();
        hearerTurnsInOneWayOnly();
        stepsAreInTheirOrder();
        givesWhenThePeriodDividesTheTime();
        givesByNumbers();
        noEchoOfTheWallOnWhichItStands();
        mirroredByEachWall();
        lateOnlyByALaterTick();
        lateBehindALateOne();
        notLateByAnotherSiren();
        notLateByAnotherHearer();
        notLateByEchoes();
        pauseOfFewerThanTwo();
        pauseOfTheLatestTwo();
        pauseAndPeriod();
        beatOfTwoSirensInOneTick();
        noBeatOfOneSiren();
        noBeatOfEchoes();
        noBeatOfTwoHearers();
        Check.end();
    }

    /** By each speed, from each place of each ring, in both ways round. */
    private static void sirenGoesOnFromEveryPlace() {
        for (int r = 1; r <= 5; r++) {
            for (int speed = -3; speed <= 3; speed++) {
                for (int start = 0; start < 8 * r; start++) {
                    SirenFair fair = new SirenFair();
                    fair.siren(0, 0, r, speed, 20);
                    for (int i = 0; i < start; i++) {
                        fair.ticks(1);
                    }
                    int place = Math.floorMod((start + 1) * speed, 8 * r);
                    Check.due("told at once", () -> fair.sirenIn(0, 1, 1), place);
                    fair.ticks(1);
                    Check.due("half side " + r + ", speed " + speed, () -> fair.sirenOf(0, 6), place);
                }
            }
        }
    }

    private static void sirenThatIsOffStands() {
        SirenFair fair = new SirenFair();
        fair.siren(0, 0, 2, 3, 1);
        fair.siren(0, 0, 2, -3, 1);
        fair.ticks(1);
        fair.turn(0, false);
        fair.ticks(10);
        Check.due("the other gives alone", () -> fair.about(5), 12);
        Check.due("it stands", () -> fair.sirenOf(0, 6), 3);
        Check.due("the other goes on", () -> fair.sirenOf(1, 6), Math.floorMod(-33, 16));
        fair.turn(0, true);
        fair.ticks(1);
        Check.due("it goes on from there", () -> fair.sirenOf(0, 6), 6);
    }

    /** From each of the three places before an edge, by each way; on the edge itself he does not turn. */
    private static void hearerTurnsAtTheEdge() {
        for (int v = -2; v <= 2; v++) {
            for (int i = 0; i < 6; i++) {
                int from = i < 3 ? 38 + i : -43 + i;
                boolean out = Math.abs(from + v) > 40;
                int to = from + v > 40 ? 40 : from + v < -40 ? -40 : from + v;
                int then = out ? -v : v;
                String name = "from " + from + " by " + v;
                SirenFair fair = new SirenFair();
                fair.hearer(from, 3, v, 0);
                fair.hearer(3, from, 0, v);
                fair.ticks(1);
                Check.due("x " + name, () -> fair.hearerOf(0, 0), to);
                Check.due("vx " + name, () -> fair.hearerOf(0, 2), then);
                Check.due("y stays", () -> fair.hearerOf(0, 1), 3);
                Check.due("y " + name, () -> fair.hearerOf(1, 1), to);
                Check.due("vy " + name, () -> fair.hearerOf(1, 3), then);
                Check.due("x stays", () -> fair.hearerOf(1, 0), 3);
            }
        }
    }

    private static void hearerTurnsInOneWayOnly() {
        SirenFair fair = new SirenFair();
        fair.hearer(40, -7, 1, 2);
        fair.hearer(-7, -40, -1, -2);
        fair.ticks(1);
        Check.due("vx is another", () -> fair.hearerOf(0, 2), -1);
        Check.due("vy is not", () -> fair.hearerOf(0, 3), 2);
        Check.due("y goes on", () -> fair.hearerOf(0, 1), -5);
        Check.due("vy is another", () -> fair.hearerOf(1, 3), 2);
        Check.due("vx is not", () -> fair.hearerOf(1, 2), -1);
        Check.due("x goes on", () -> fair.hearerOf(1, 0), -8);
    }

    /** The siren comes to (0, -1) and the hearer to (0, -1), and then the pulse is given and heard. */
    private static void stepsAreInTheirOrder() {
        SirenFair fair = new SirenFair();
        fair.siren(0, 0, 1, 1, 1);
        fair.hearer(-2, -2, 2, 1);
        Check.due("both go before it is given and heard", () -> fair.ticks(1), 1);
        Check.due("in the tick that it became", () -> fair.heard(0, 0, 3), 1);
    }

    private static void givesWhenThePeriodDividesTheTime() {
        for (int period = 1; period <= 20; period++) {
            SirenFair fair = new SirenFair();
            fair.ticks(7);
            fair.siren(0, 0, 1, 0, period);
            for (int time = 8; time <= 7 + 2 * period; time++) {
                fair.ticks(1);
                int given = time / period - 7 / period;
                Check.due("period " + period + " at " + time, () -> fair.about(5), given);
            }
        }
    }

    private static void givesByNumbers() {
        SirenFair fair = new SirenFair();
        for (int s = 0; s < 4; s++) {
            fair.siren(s, 2 * s, 1, 0, 2);
        }
        fair.turn(2, false);
        fair.wall(false, 30);
        fair.wall(true, 20);
        fair.wall(true, -20);
        fair.ticks(1);
        Check.due("none at 1", () -> fair.about(4), 0);
        fair.ticks(1);
        int[] sirens = {0, 1, 3};
        for (int i = 0; i < 12; i++) {
            int k = i;
            Check.due("siren of " + k, () -> fair.pulse(k, 0), sirens[k / 4]);
            Check.due("wall of " + k, () -> fair.pulse(k, 4), k % 4 - 1);
            Check.due("tick of " + k, () -> fair.pulse(k, 3), 2);
        }
        Check.thrown("no more", () -> fair.pulse(12, 0), Check.BOUNDS);
    }

    /** Walls at its x or y and beside it: two of three echo, those beside it. */
    private static void noEchoOfTheWallOnWhichItStands() {
        for (int i = 0; i < 2; i++) {
            boolean upright = i == 0;
            int on = upright ? 4 : -9;
            SirenFair fair = Fairs.standing(4, -9, 1);
            fair.wall(upright, on);
            fair.wall(upright, on - 1);
            fair.wall(upright, on + 1);
            fair.ticks(1);
            Check.due("a direct one and two echoes", () -> fair.about(5), 3);
            Check.due("the first echo", () -> fair.pulse(1, 4), 1);
            Check.due("is as far beyond the wall", () -> fair.pulse(1, upright ? 1 : 2), on - 2);
            Check.due("the second echo", () -> fair.pulse(2, 4), 2);
            Check.due("is as far beyond it", () -> fair.pulse(2, upright ? 1 : 2), on + 2);
        }
        SirenFair other = Fairs.standing(4, -9, 1);
        other.wall(false, 4);
        other.wall(true, -9);
        other.ticks(1);
        Check.due("x and y are not mixed up", () -> other.about(5), 3);
    }

    /** 2 * w - x with y, and x with 2 * w - y, for walls from edge to edge. */
    private static void mirroredByEachWall() {
        for (int w = -40; w <= 40; w++) {
            SirenFair fair = Fairs.standing(25, -31, 1);
            fair.wall(true, w);
            fair.wall(false, w);
            fair.ticks(1);
            int k = 1;
            if (w != 25) {
                mirrored(fair, k, 2 * w - 25, -31);
                k++;
            }
            if (w != -31) {
                mirrored(fair, k, 25, 2 * w + 31);
                k++;
            }
            int given = k;
            Check.due("no other", () -> fair.about(5), given);
        }
    }

    private static void mirrored(SirenFair fair, int k, int x, int y) {
        Check.due("mirrored x", () -> fair.pulse(k, 1), x);
        Check.due("mirrored y", () -> fair.pulse(k, 2), y);
    }

    /** Two pulses wait, of 1 and 2, and are heard in one tick, the oldest first. */
    private static void lateOnlyByALaterTick() {
        SirenFair fair = Fairs.standing(-1, -1, 1);
        fair.set(0, 1);
        fair.hearer(-1, 8, 0, 0);
        fair.ticks(2);
        fair.turn(0, false);
        fair.ticks(4);
        fair.set(0, 9);
        Check.due("both at once", () -> fair.ticks(1), 2);
        Check.due("neither is late", () -> fair.about(8), 0);
        Check.due("nor for him", () -> fair.heard(0, 0, 2), 0);
    }

    /** The second is late by the third, and the first by all, also behind the second, which was late. */
    private static void lateBehindALateOne() {
        SirenFair fair = Fairs.overtaking();
        int[] late = {0, 0, 0, 0, 0, 0, 1, 1, 2, 2};
        for (int i = 0; i < late.length; i++) {
            int n = i;
            fair.ticks(1);
            Check.due("late ones at " + (5 + n), () -> fair.heard(0, 0, 2), late[n]);
            Check.due("of all at " + (5 + n), () -> fair.about(8), late[n]);
        }
    }

    /** That of the far one is heard behind later ones of the near one. */
    private static void notLateByAnotherSiren() {
        SirenFair fair = Fairs.standing(-1, -1, 1);
        fair.siren(0, 20, 1, 0, 1);
        fair.set(0, 1);
        fair.hearer(-1, 19, 0, 0);
        fair.ticks(40);
        Check.due("the far one is heard", () -> fair.heard(0, 0, 0), 20);
        Check.due("the near one too", () -> fair.heard(0, 1, 0), 40);
        Check.due("none is late", () -> fair.about(8), 0);
    }

    private static void notLateByAnotherHearer() {
        SirenFair fair = Fairs.standing(-1, -1, 1);
        fair.set(0, 1);
        fair.hearer(-1, -1, 0, 0);
        fair.hearer(-1, 19, 0, 0);
        fair.ticks(40);
        Check.due("the near one hears", () -> fair.heard(0, 0, 0), 40);
        Check.due("the far one hears", () -> fair.heard(1, 0, 0), 20);
        Check.due("none is late", () -> fair.about(8), 0);
    }

    private static void notLateByEchoes() {
        SirenFair fair = Fairs.standing(-1, -1, 1);
        fair.set(0, 1);
        fair.wall(true, 5);
        fair.hearer(-1, -1, 0, 0);
        fair.ticks(30);
        Check.due("echoes behind later direct ones", () -> fair.heard(0, 0, 1), 18);
        Check.due("are not late", () -> fair.heard(0, 0, 2), 0);
        Check.due("nor are any", () -> fair.about(8), 0);
    }

    private static void soundIs(String name, SirenFair fair, int pause, int sound) {
        Check.due(name + ": the pause", () -> fair.heard(0, 0, 4), pause);
        Check.due(name + ": the sound", () -> fair.heard(0, 0, 5), sound);
    }

    private static void pauseOfFewerThanTwo() {
        SirenFair fair = Fairs.standing(-1, -1, 20);
        fair.wall(true, 0);
        fair.hearer(-1, -1, 0, 0);
        soundIs("none heard", fair, -1, -1);
        Check.due("none heard: the tick", () -> fair.heard(0, 0, 3), -1);
        fair.ticks(39);
        Check.due("one and an echo", () -> fair.heard(0, 0, 0) + fair.heard(0, 0, 1), 2);
        soundIs("one heard", fair, -1, -1);
        Check.due("one heard: the tick", () -> fair.heard(0, 0, 3), 20);
        fair.ticks(1);
        soundIs("two heard", fair, 20, 0);
    }

    /** Two in one tick, the next a tick later, the next two ticks later. */
    private static void pauseOfTheLatestTwo() {
        SirenFair fair = Fairs.standing(-1, -1, 2);
        fair.set(0, 1);
        fair.hearer(-1, 8, 0, 0);
        fair.ticks(7);
        soundIs("none yet", fair, -1, -1);
        fair.set(0, 3);
        fair.ticks(1);
        soundIs("those of 2 and 4 in one tick", fair, 0, 1);
        Check.due("two", () -> fair.heard(0, 0, 0), 2);
        fair.ticks(1);
        soundIs("that of 6 a tick later", fair, 1, 1);
        fair.ticks(2);
        soundIs("that of 8 two ticks later", fair, 2, 0);
    }

    /** The way is 9: heard a tick behind it is given by a sound of 9, two by 8. */
    private static void pauseAndPeriod() {
        for (int period = 2; period <= 20; period++) {
            for (int i = 0; i < 3; i++) {
                SirenFair fair = Fairs.standing(-1, -1, period);
                fair.hearer(-1, 8, 0, 0);
                fair.set(0, i == 0 ? 8 : 9);
                fair.ticks(period);
                fair.ticks(2);
                fair.set(0, i == 2 ? 8 : 9);
                fair.ticks(period);
                int longer = i - 1;
                soundIs("a period of " + period, fair, period + longer, longer == 0 ? 0 : longer < 0 ? 1 : 2);
            }
        }
    }

    private static void beatsAre(String name, SirenFair fair, int first, int all) {
        Check.due(name + ", the first hearer", () -> fair.hearerOf(0, 4), first);
        Check.due(name + ", all", () -> fair.about(9), all);
    }

    /** Pulses of 20 come from ways of 0 and 3, and so a tick apart; those of 40 from ways of 3 and 3. */
    private static void beatOfTwoSirensInOneTick() {
        SirenFair fair = Fairs.standing(-1, -1, 20);
        fair.siren(0, 3, 1, 0, 20);
        fair.hearer(-1, -1, 0, 0);
        fair.ticks(21);
        Check.due("both were heard", () -> fair.about(6), 2);
        beatsAre("a tick apart", fair, 0, 0);
        fair.turn(0, false);
        fair.siren(3, 0, 1, 0, 20);
        fair.ticks(20);
        beatsAre("two in one tick", fair, 1, 1);
        fair.siren(0, -3, 1, 0, 20);
        fair.ticks(20);
        beatsAre("three in one tick", fair, 2, 2);
        fair.hearer(-1, -1, 0, 0);
        fair.ticks(20);
        beatsAre("by two hearers", fair, 3, 4);
    }

    private static void noBeatOfOneSiren() {
        SirenFair fair = Fairs.standing(-1, -1, 1);
        fair.set(0, 1);
        fair.hearer(-1, 8, 0, 0);
        fair.ticks(5);
        fair.set(0, 9);
        Check.due("five of one siren in a tick", () -> fair.ticks(1), 5);
        beatsAre("one siren", fair, 0, 0);
    }

    /** At 22 the direct one of the second and the echo of the first, both from a way of 6. */
    private static void noBeatOfEchoes() {
        SirenFair fair = Fairs.standing(-1, -1, 20);
        fair.siren(6, 0, 1, 0, 20);
        fair.wall(false, 2);
        fair.hearer(-1, -1, 0, 0);
        Check.due("the first at 20", () -> fair.ticks(20), 1);
        Check.due("none at 21", () -> fair.ticks(1), 0);
        Check.due("two at 22", () -> fair.ticks(1), 2);
        Check.due("an echo of the first", () -> fair.heard(0, 0, 1), 1);
        Check.due("a direct one of the second", () -> fair.heard(0, 1, 3), 22);
        beatsAre("with an echo", fair, 0, 0);
        Check.due("the echo of the second alone", () -> fair.ticks(9), 1);
        beatsAre("of echoes", fair, 0, 0);
    }

    private static void noBeatOfTwoHearers() {
        SirenFair fair = Fairs.standing(-1, -1, 20);
        fair.siren(30, 30, 1, 0, 20);
        fair.hearer(-1, -1, 0, 0);
        fair.hearer(29, 29, 0, 0);
        Check.due("each hears another one", () -> fair.ticks(20), 2);
        beatsAre("of two hearers", fair, 0, 0);
    }
}
