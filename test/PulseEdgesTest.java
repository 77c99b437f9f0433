/** The sentences of "Pulses" that name an edge, one method for each: reached or not, heard or not, gone or not. */
public final class PulseEdgesTest {
    public static void main(String[] args) {
        reachedByAtMostSoundTimesTicks();
        reachedByTheSettingOfNow();
        reachedAtOnceOnlyWhereItSpreads();
        heardOnce();
        newHearerInTheNextTick();
        echoReachedFromMirroredPlace();
        echoOnTheSameSideOnly();
        echoOnceHeComesToTheSide();
        echoNotIfHeWentToTheOtherSide();
        echoSideIsOfThePlaceNotOfTheSiren();
        notGoneWithoutHearers();
        goneWhenEachHeard();
        goneNotBeforeTheNewHearerHeard();
        goneAsOldAsSetting1();
        goneWhenOlderThanSetting1();
        heardInTheTickInWhichItGoes();
        sixtyMayBe();
        sixtyFirstTakesTheOldestAtOnce();
        ofOneTickTheFirstGivenIsOlder();
        Check.end();
    }

    /** A siren that stands at (-1, -1) and gives its first pulse at 20, by a sound and a lasting. */
    private static SirenFair single(int sound, int lasting) {
        SirenFair fair = Fairs.standing(-1, -1, 20);
        fair.set(0, sound);
        fair.set(1, lasting);
        return fair;
    }

    /** The first pulse is the only one. */
    private static int ticksToTheOnlyPulse(SirenFair fair) {
        int heard = fair.ticks(20);
        fair.turn(0, false);
        return heard;
    }

    private static void pulsesAre(String name, SirenFair fair, int want) {
        Check.due(name, () -> fair.about(4), want);
    }

    private static void oldestIs(String name, SirenFair fair, int siren, int tick, int wall) {
        Check.due(name + ": its siren", () -> fair.pulse(0, 0), siren);
        Check.due(name + ": its tick", () -> fair.pulse(0, 3), tick);
        Check.due(name + ": its wall", () -> fair.pulse(0, 4), wall);
    }

    /** In four directions: at the first tick at which the sound times the ticks is the way or more. */
    private static void reachedByAtMostSoundTimesTicks() {
        for (int sound = 1; sound <= 9; sound++) {
            for (int way = 0; way <= 78; way++) {
                int far = Math.min(way, 39);
                int near = way - far;
                SirenFair fair = single(sound, 99);
                fair.hearer(-1 + far, -1 + near, 0, 0);
                fair.hearer(-1 - far, -1 + near, 0, 0);
                fair.hearer(-1 + near, -1 - far, 0, 0);
                fair.hearer(-1 - near, -1 - far, 0, 0);
                ticksToTheOnlyPulse(fair);
                fair.ticks(99);
                int due = 20 + (way + sound - 1) / sound;
                for (int i = 0; i < 4; i++) {
                    int h = i;
                    Check.due("a way of " + way + " by " + sound, () -> fair.heard(h, 0, 3), due);
                }
            }
        }
    }

    /** All ticks since it was given count by the setting 0 that is set then. */
    private static void reachedByTheSettingOfNow() {
        SirenFair faster = single(1, 99);
        faster.hearer(38, 20, 0, 0);
        ticksToTheOnlyPulse(faster);
        Check.due("60 are not reached by 5", () -> faster.ticks(5), 0);
        faster.set(0, 9);
        Check.due("nor by 9 * 6", () -> faster.ticks(1), 0);
        Check.due("but by 9 * 7", () -> faster.ticks(1), 1);

        SirenFair slower = single(9, 99);
        slower.hearer(38, 20, 0, 0);
        ticksToTheOnlyPulse(slower);
        Check.due("60 are not reached by 9 * 6", () -> slower.ticks(6), 0);
        slower.set(0, 1);
        Check.due("nor by 1 * 59", () -> slower.ticks(53), 0);
        Check.due("but by 1 * 60", () -> slower.ticks(1), 1);
    }

    private static void reachedAtOnceOnlyWhereItSpreads() {
        SirenFair fair = single(9, 40);
        fair.hearer(-1, -1, 0, 0);
        fair.hearer(0, -1, 0, 0);
        fair.hearer(-1, -2, 0, 0);
        fair.ticks(19);
        Check.due("in the tick in which it is given", () -> fair.ticks(1), 1);
        Check.due("by the one who stands there", () -> fair.pulse(0, 5), 1);
        Check.due("and a tick later by those beside", () -> fair.ticks(1), 2);
    }

    private static void heardOnce() {
        SirenFair fair = single(1, 99);
        fair.hearer(-1, -1, 0, 0);
        fair.hearer(38, 38, 0, 0);
        Check.due("once", () -> ticksToTheOnlyPulse(fair), 1);
        Check.due("not again while it lasts", () -> fair.ticks(77), 0);
        pulsesAre("it lasts", fair, 1);
        Check.due("then by the other", () -> fair.ticks(1), 1);
        Check.due("once by the first", () -> fair.heard(0, 0, 0), 1);
    }

    private static void newHearerInTheNextTick() {
        SirenFair fair = single(1, 99);
        ticksToTheOnlyPulse(fair);
        fair.ticks(5);
        fair.hearer(-1, 4, 0, 0);
        fair.hearer(-1, 6, 0, 0);
        Check.due("not before a tick goes by", () -> fair.heard(0, 0, 0), 0);
        Check.due("nobody is noted", () -> fair.pulse(0, 5), 0);
        Check.due("in the next tick by him who is near", () -> fair.ticks(1), 1);
        Check.due("he is noted", () -> fair.pulse(0, 5), 1);
        Check.due("and then by the other", () -> fair.ticks(1), 1);
    }

    /** (-1, -1) is mirrored to (21, -1), and to (-1, -41): 12 and 13 from there, 35 and 36. */
    private static void echoReachedFromMirroredPlace() {
        SirenFair fair = single(3, 40);
        fair.wall(true, 10);
        fair.hearer(9, -1, 0, 0);
        fair.hearer(8, -1, 0, 0);
        ticksToTheOnlyPulse(fair);
        fair.ticks(3);
        Check.due("12 are not reached by 3 * 3", () -> fair.about(7), 0);
        fair.ticks(1);
        Check.due("but by 3 * 4", () -> fair.heard(0, 0, 1), 1);
        Check.due("13 are not", () -> fair.heard(1, 0, 1), 0);
        fair.ticks(1);
        Check.due("but by 3 * 5", () -> fair.heard(1, 0, 1), 1);

        SirenFair level = single(9, 40);
        level.wall(false, -21);
        level.hearer(-1, -6, 0, 0);
        level.hearer(0, -6, 0, 0);
        level.hearer(0, -5, 0, 0);
        ticksToTheOnlyPulse(level);
        level.ticks(3);
        Check.due("35 are not reached by 9 * 3", () -> level.about(7), 0);
        level.ticks(1);
        Check.due("35 and 36 are by 9 * 4", () -> level.about(7), 2);
        Check.due("37 are not", () -> level.heard(2, 0, 1), 0);
    }

    /** A siren 5 to either side of a wall, hearers beside it, on it and beyond: the first alone hears the echo. */
    private static void echoOnTheSameSideOnly() {
        for (int i = 0; i < 4; i++) {
            int side = i % 2 == 0 ? 1 : -1;
            boolean upright = i < 2;
            SirenFair fair = upright ? Fairs.standing(5 * side, 3, 1) : Fairs.standing(3, 5 * side, 1);
            fair.set(0, 9);
            fair.wall(upright, 0);
            for (int at = 1; at >= -1; at--) {
                fair.hearer(upright ? at * side : 3, upright ? 3 : at * side, 0, 0);
            }
            fair.ticks(30);
            String name = (upright ? "upright, " : "level, ") + side;
            Check.due(name + ", beside it on its side", () -> fair.heard(0, 0, 1), 29);
            Check.due(name + ", on the wall", () -> fair.heard(1, 0, 1), 0);
            Check.due(name + ", beyond", () -> fair.heard(2, 0, 1), 0);
            Check.due(name + ", direct ones go through", () -> fair.heard(2, 0, 0), 29);
        }
    }

    private static void echoOnceHeComesToTheSide() {
        for (int vy = 1; vy <= 2; vy++) {
            SirenFair fair = single(9, 99);
            fair.wall(false, -11);
            fair.hearer(-1, -31, 0, vy);
            int untilTheWall = 20 / vy;
            fair.walk(0, 0, 0);
            ticksToTheOnlyPulse(fair);
            fair.ticks(10);
            fair.walk(0, 0, vy);
            int way = vy;
            fair.ticks(untilTheWall);
            Check.due("he is on the wall", () -> fair.hearerOf(0, 1), -11);
            Check.due("and did not hear the echo there", () -> fair.about(7), 0);
            fair.ticks(1);
            Check.due("beyond it", () -> fair.hearerOf(0, 1), -11 + way);
            Check.due("he hears it", () -> fair.about(7), 1);
        }
    }

    /** The echo from (21, -1) is 12 away from where he was and reaches him when he has passed the wall. */
    private static void echoNotIfHeWentToTheOtherSide() {
        SirenFair fair = single(1, 40);
        fair.wall(true, 10);
        fair.hearer(9, -1, 0, 0);
        ticksToTheOnlyPulse(fair);
        fair.walk(0, 2, 0);
        fair.ticks(30);
        Check.due("he is still beyond it", () -> fair.hearerOf(0, 0), 12);
        Check.due("he heard the direct one", () -> fair.about(6), 1);
        Check.due("and not the echo", () -> fair.about(7), 0);
    }

    /** Given at (-5, -5), heard when the siren has come to (3, 5), on the other side of the wall. */
    private static void echoSideIsOfThePlaceNotOfTheSiren() {
        SirenFair fair = new SirenFair();
        fair.siren(0, 0, 5, 2, 20);
        fair.set(0, 4);
        fair.wall(true, 0);
        fair.hearer(-3, 30, 0, 0);
        fair.hearer(3, 30, 0, 0);
        fair.ticks(30);
        Check.due("43 are not reached by 4 * 10", () -> fair.about(7), 0);
        fair.ticks(1);
        Check.due("the siren is in the east", () -> fair.sirenOf(0, 7), 3);
        Check.due("it was in the west, and so he hears", () -> fair.heard(0, 0, 1), 1);
        Check.due("the other one is nearer, but in the east", () -> fair.heard(1, 0, 1), 0);
    }

    private static void notGoneWithoutHearers() {
        SirenFair fair = single(9, 99);
        ticksToTheOnlyPulse(fair);
        pulsesAre("without hearers it stays", fair, 1);
        fair.ticks(98);
        pulsesAre("all the time", fair, 1);
        Check.due("nobody heard it", () -> fair.pulse(0, 5), 0);
    }

    /** With one to four hearers, who hear it one tick after the other. */
    private static void goneWhenEachHeard() {
        for (int many = 1; many <= 4; many++) {
            SirenFair fair = single(9, 99);
            for (int h = 0; h < many; h++) {
                fair.hearer(-1, -1 + 9 * h, 0, 0);
            }
            Check.due("the first hears it", () -> ticksToTheOnlyPulse(fair), 1);
            for (int h = 1; h < many; h++) {
                pulsesAre(h + " of " + many + " heard it", fair, 1);
                int who = (1 << h) - 1;
                Check.due("they are noted", () -> fair.pulse(0, 5), who);
                Check.due("one more hears it", () -> fair.ticks(1), 1);
            }
            pulsesAre("each of " + many + " heard it", fair, 0);
        }
    }

    private static void goneNotBeforeTheNewHearerHeard() {
        SirenFair fair = single(1, 99);
        fair.hearer(-1, 4, 0, 0);
        ticksToTheOnlyPulse(fair);
        fair.ticks(4);
        fair.hearer(-1, 6, 0, 0);
        Check.due("5 are reached", () -> fair.ticks(1), 1);
        pulsesAre("it waits for the new one", fair, 1);
        fair.ticks(1);
        pulsesAre("and for 7", fair, 1);
        Check.due("7 are reached", () -> fair.ticks(1), 1);
        pulsesAre("then it is gone", fair, 0);
    }

    private static void goneAsOldAsSetting1() {
        for (int lasting = 1; lasting <= 99; lasting++) {
            SirenFair fair = single(3, lasting);
            ticksToTheOnlyPulse(fair);
            if (lasting > 1) {
                fair.ticks(lasting - 1);
            }
            pulsesAre("one tick younger than " + lasting, fair, 1);
            fair.ticks(1);
            pulsesAre("as old as " + lasting, fair, 0);
        }
    }

    /** At the age of 10 the setting becomes less; the pulse is taken away in a tick, not by the setting. */
    private static void goneWhenOlderThanSetting1() {
        int[][] settings = {{1, 0}, {5, 0}, {10, 0}, {11, 0}, {12, 1}};
        for (int[] s : settings) {
            SirenFair fair = single(3, 99);
            ticksToTheOnlyPulse(fair);
            fair.ticks(10);
            fair.set(1, s[0]);
            pulsesAre("10 ticks old, before the next tick", fair, 1);
            fair.ticks(1);
            pulsesAre("11 ticks old, lasting " + s[0], fair, s[1]);
            fair.ticks(1);
            pulsesAre("12 ticks old, lasting " + s[0], fair, 0);
        }
    }

    private static void heardInTheTickInWhichItGoes() {
        SirenFair fair = single(1, 5);
        fair.hearer(-1, 4, 0, 0);
        fair.hearer(-1, 5, 0, 0);
        ticksToTheOnlyPulse(fair);
        Check.due("not 4 ticks old", () -> fair.ticks(4), 0);
        Check.due("5 ticks old, by one", () -> fair.ticks(1), 1);
        pulsesAre("then it is gone", fair, 0);
        Check.due("and the other never hears it", () -> fair.ticks(9), 0);
    }

    private static void sixtyMayBe() {
        SirenFair fair = Fairs.standing(-1, -1, 1);
        fair.set(1, 99);
        fair.ticks(59);
        pulsesAre("59", fair, 59);
        fair.ticks(1);
        pulsesAre("60", fair, 60);
        oldestIs("none is gone", fair, 0, 1, -1);
        Check.due("the youngest", () -> fair.pulse(59, 3), 60);
        Check.thrown("behind the youngest", () -> fair.pulse(60, 3), Check.BOUNDS);
        fair.ticks(1);
        pulsesAre("60 of 61", fair, 60);
        oldestIs("the oldest is gone", fair, 0, 2, -1);
        Check.due("the youngest of 61", () -> fair.pulse(59, 3), 61);
        fair.ticks(99);
        pulsesAre("60 of 160", fair, 60);
        oldestIs("the oldest of 160", fair, 0, 101, -1);
        Check.due("160 were given", () -> fair.about(5), 160);
    }

    /** It is gone before it could be heard in the tick: 59 are reached at 60, 60 would be at 61. */
    private static void sixtyFirstTakesTheOldestAtOnce() {
        for (int way = 59; way <= 60; way++) {
            SirenFair fair = Fairs.standing(-1, -1, 1);
            fair.set(0, 1);
            fair.set(1, 99);
            fair.hearer(38, -1 + way - 39, 0, 0);
            Check.due("before 60 none", () -> fair.ticks(59), 0);
            int one = way == 59 ? 1 : 0;
            Check.due("at 60, from " + way, () -> fair.ticks(1), one);
            Check.due("at 61, from " + way, () -> fair.ticks(1), one);
            Check.due("in 99 more, from " + way, () -> fair.ticks(99), 99 * one);
        }
    }

    /** One siren gives three a tick; then another one, which stands on both walls, one a tick. */
    private static void ofOneTickTheFirstGivenIsOlder() {
        SirenFair echoes = Fairs.standing(-1, -1, 1);
        echoes.siren(11, 21, 1, 0, 1);
        echoes.turn(1, false);
        echoes.set(1, 99);
        echoes.wall(true, 10);
        echoes.wall(false, 20);
        echoes.ticks(20);
        oldestIs("60 are there", echoes, 0, 1, -1);
        echoes.turn(0, false);
        echoes.turn(1, true);
        int[] walls = {0, 1, -1, 0};
        for (int i = 0; i < 4; i++) {
            echoes.ticks(1);
            pulsesAre("60 stay", echoes, 60);
            oldestIs("the direct one goes first, then by walls", echoes, 0, i < 2 ? 1 : 2, walls[i]);
        }

        SirenFair sirens = Fairs.standing(-1, -1, 1);
        sirens.siren(0, 0, 1, 0, 1);
        sirens.siren(0, 0, 1, 0, 1);
        sirens.ticks(20);
        sirens.turn(1, false);
        sirens.turn(2, false);
        for (int i = 1; i <= 4; i++) {
            sirens.ticks(1);
            oldestIs("by numbers of sirens", sirens, i % 3, 1 + i / 3, -1);
        }
    }
}
