/** The sentences of the promises 6 to 11 and 20 to 25 that name an edge and have no test elsewhere. */
public final class AskingEdgesTest {
    public static void main(String[] args) {
        numbersBelowZero();
        ticksCountFromTheFieldsBeginning();
        fasterThanSoundBySettingOfNow();
        nearestOfSeveral();
        nearestIsOneThatIsOff();
        pulsesFromTheOldest();
        hearersAsASet();
        higherLowerSameNone();
        sirenInNoTick();
        sirenInThousandTicks();
        sirenInOfOneThatIsOff();
        sirenInAfterTheTicks();
        heardInOneTick();
        heardInTwoHundredTicks();
        heardInNotByEchoesOrOthers();
        quietInNone();
        quietInOne();
        quietInNinetyNine();
        quietInWhenAllHaveHeard();
        quietInOfOthersThatAreOff();
        leastSpeedOneTwoThree();
        leastSpeedNone();
        leastSpeedInOneTick();
        leastSpeedInNinetyNineTicks();
        simulateOneTurn();
        simulateSixtyTurns();
        simulateBeginsWithWhatThereIs();
        heardInOnAFullField();
        quietInOnAFullField();
        leastSpeedOnAFullField();
        Check.end();
    }

    private static void numbersBelowZero() {
        SirenFair fair = new SirenFair();
        fair.siren(-30, -30, 5, -3, 1);
        fair.hearer(-40, -40, -2, -2);
        fair.wall(true, -40);
        fair.wall(false, -40);
        int[] siren = {-30, -30, 5, -3, 1, 1, 0, -35, -35, 0};
        for (int i = 0; i < 10; i++) {
            int what = i;
            Check.due("siren " + what, () -> fair.sirenOf(0, what), siren[what]);
        }
        int[] hearer = {-40, -40, -2, -2, 0, 0};
        for (int i = 0; i < 6; i++) {
            int what = i;
            Check.due("hearer " + what, () -> fair.hearerOf(0, what), hearer[what]);
        }
        Check.due("an upright wall", () -> fair.wallOf(0, 1), -40);
        Check.due("a level wall", () -> fair.wallOf(1, 1), -40);
        fair.ticks(1);
        Check.due("x of an echo", () -> fair.pulse(1, 1), -80 + 35);
        Check.due("y of an echo", () -> fair.pulse(2, 2), -80 + 32);
    }

    private static void ticksCountFromTheFieldsBeginning() {
        SirenFair fair = new SirenFair();
        fair.ticks(3);
        fair.siren(0, 0, 1, 0, 5);
        fair.hearer(-1, -1, 0, 0);
        fair.ticks(2);
        Check.due("the tick when it was heard", () -> fair.heard(0, 0, 3), 5);
    }

    private static void fasterThanSoundBySettingOfNow() {
        SirenFair fair = new SirenFair();
        fair.siren(0, 0, 1, 3, 1);
        fair.siren(0, 0, 1, -3, 1);
        fair.siren(0, 0, 1, -1, 1);
        int[][] due = {{1, 1, 0}, {1, 1, 0}, {0, 0, 0}, {0, 0, 0}};
        for (int sound = 1; sound <= 4; sound++) {
            fair.set(0, sound);
            for (int i = 0; i < 3; i++) {
                int s = i;
                Check.due("siren " + s + " by " + sound, () -> fair.sirenOf(s, 9), due[sound - 1][s]);
            }
        }
    }

    /** All are 6 away, in four directions; then one is 5 away. */
    private static void nearestOfSeveral() {
        SirenFair fair = Fairs.standing(0, 6, 1);
        fair.hearer(0, 0, 0, 0);
        fair.siren(1 - 6, 1, 1, 0, 1);
        fair.siren(1 + 2, 1 - 4, 1, 0, 1);
        Check.due("of several the lowest", () -> fair.hearerOf(0, 5), 0);
        fair.siren(1 - 3, 1 - 2, 1, 0, 1);
        Check.due("but 5 is less than 6", () -> fair.hearerOf(0, 5), 3);
        fair.hearer(0, 7, 0, 0);
        Check.due("each hearer has his own", () -> fair.hearerOf(1, 5), 0);
    }

    private static void nearestIsOneThatIsOff() {
        SirenFair fair = new SirenFair();
        fair.hearer(0, 0, 0, 0);
        Check.due("without sirens none", () -> fair.hearerOf(0, 5), -1);
        fair.siren(30, 30, 1, 0, 1);
        fair.siren(0, 0, 1, 0, 1);
        fair.turn(1, false);
        Check.due("it may be off", () -> fair.hearerOf(0, 5), 1);
    }

    private static void pulsesFromTheOldest() {
        SirenFair fair = Fairs.standing(-1, -1, 2);
        Check.thrown("none yet", () -> fair.pulse(0, 3), Check.BOUNDS);
        fair.ticks(7);
        for (int i = 0; i < 3; i++) {
            int k = i;
            Check.due("pulse " + k, () -> fair.pulse(k, 3), 2 * k + 2);
        }
        Check.thrown("behind the last", () -> fair.pulse(3, 3), Check.BOUNDS);
        Check.thrown("before the first", () -> fair.pulse(-1, 3), Check.BOUNDS);
    }

    /** Each of the 15 sets of those who stand where it spreads; who is far away does not belong to it. */
    private static void hearersAsASet() {
        for (int set = 0; set < 15; set++) {
            SirenFair fair = Fairs.standing(-1, -1, 1);
            for (int h = 0; h < 4; h++) {
                int at = (set >> h & 1) == 1 ? -1 : 30;
                fair.hearer(at, at, 0, 0);
            }
            fair.ticks(1);
            int due = set;
            Check.due("who heard it", () -> fair.pulse(0, 5), due);
        }
    }

    /** He comes from 39 by 1 a tick, stands at 11 or goes away from there, with a sound of 2 and a period of 4. */
    private static void higherLowerSameNone() {
        int[][] walks = {{39, -1, 16, 6, 1}, {11, 0, 10, 4, 0}, {11, 1, 20, 8, 2}};
        for (int[] walk : walks) {
            SirenFair fair = Fairs.standing(-1, -1, 4);
            fair.set(0, 2);
            fair.hearer(walk[0], -1, walk[1], 0);
            fair.ticks(walk[2]);
            Check.due("the first is heard", () -> fair.heard(0, 0, 0), 1);
            Check.due("without a pause none", () -> fair.heard(0, 0, 5), -1);
            fair.ticks(walk[3]);
            Check.due("walking by " + walk[1], () -> fair.heard(0, 0, 5), walk[4]);
        }
    }

    private static void sirenInNoTick() {
        SirenFair fair = new SirenFair();
        fair.siren(0, 0, 2, -3, 1);
        fair.ticks(1);
        for (int way = 0; way < 2; way++) {
            int w = way;
            Check.due("behind no tick", () -> fair.sirenIn(0, 0, w), 13);
            Check.due("behind one", () -> fair.sirenIn(0, 1, w), 10);
            Check.thrown("behind -1", () -> fair.sirenIn(0, -1, w), Check.ARGUMENT);
        }
    }

    private static void sirenInThousandTicks() {
        for (int speed = -3; speed <= 3; speed++) {
            SirenFair fair = new SirenFair();
            fair.siren(0, 0, 5, speed, 1);
            fair.siren(0, 0, 3, speed, 1);
            fair.ticks(3);
            int by = speed;
            for (int way = 0; way < 2; way++) {
                int w = way;
                Check.due("1000 of 40", () -> fair.sirenIn(0, 1000, w), Math.floorMod(1003 * by, 40));
                Check.due("1000 of 24", () -> fair.sirenIn(1, 1000, w), Math.floorMod(1003 * by, 24));
                Check.thrown("1001", () -> fair.sirenIn(0, 1001, w), Check.ARGUMENT);
            }
        }
    }

    private static void sirenInOfOneThatIsOff() {
        SirenFair fair = new SirenFair();
        fair.siren(0, 0, 4, 3, 1);
        fair.ticks(2);
        fair.turn(0, false);
        Check.due("tick by tick", () -> fair.sirenIn(0, 1000, 0), 6);
        Check.due("at once", () -> fair.sirenIn(0, 1000, 1), 6);
        fair.turn(0, true);
        Check.due("on again, tick by tick", () -> fair.sirenIn(0, 9, 0), 33 % 32);
        Check.due("on again, at once", () -> fair.sirenIn(0, 9, 1), 33 % 32);
    }

    /** What is told is where it is then. */
    private static void sirenInAfterTheTicks() {
        for (int n = 1; n <= 99; n++) {
            SirenFair fair = new SirenFair();
            fair.siren(0, 0, 1 + n % 5, n % 7 - 3, 1);
            int ticks = n;
            int told = fair.sirenIn(0, n, 0);
            Check.due("in both ways", () -> fair.sirenIn(0, ticks, 1), told);
            fair.ticks(n);
            Check.due("behind " + n, () -> fair.sirenOf(0, 6), told);
        }
    }

    private static void heardInOneTick() {
        SirenFair fair = Fairs.standing(-1, -1, 1);
        fair.hearer(-1, -1, 0, 0);
        Check.due("the next tick", () -> fair.heardIn(0, 0), 1);
        fair.ticks(1);
        Check.due("the next one again", () -> fair.heardIn(0, 0), 1);
    }

    /** A sound that is heard only where it spreads, and a hearer who comes by there at 201. */
    private static void heardInTwoHundredTicks() {
        SirenFair fair = Fairs.standing(-1, -1, 1);
        fair.set(0, 1);
        fair.set(1, 1);
        fair.hearer(-40, 8, 1, 2);
        Check.due("201 are too many", () -> fair.heardIn(0, 0), -1);
        Check.due("and one has gone by", () -> fair.ticks(1), 0);
        Check.due("200 are not", () -> fair.heardIn(0, 0), 200);
        Check.due("two have", () -> fair.ticks(1), 0);
        Check.due("199", () -> fair.heardIn(0, 0), 199);
        Check.due("all but one have", () -> fair.ticks(99) + fair.ticks(99), 0);
        Check.due("the last one", () -> fair.heardIn(0, 0), 1);
        Check.due("is it", () -> fair.ticks(1), 1);
    }

    private static void heardInNotByEchoesOrOthers() {
        SirenFair fair = Fairs.standing(-1, -1, 20);
        fair.siren(0, 0, 1, 0, 5);
        fair.hearer(-1, -1, 0, 0);
        fair.hearer(40, 40, 0, 0);
        fair.wall(true, 0);
        fair.ticks(20);
        Check.due("its echo is on its way", () -> fair.pulse(fair.about(4) - 3, 4), 0);
        Check.due("the other siren", () -> fair.heardIn(0, 1), 5);
        Check.due("this one", () -> fair.heardIn(0, 0), 20);
        Check.due("by the other hearer", () -> fair.heardIn(1, 0), 28);
        fair.turn(0, false);
        Check.due("none by then", () -> fair.heardIn(0, 0), -1);
    }

    private static void quietInNone() {
        SirenFair fair = new SirenFair();
        Check.due("an empty field", () -> fair.quietIn(), 0);
        fair.siren(0, 0, 1, 0, 1);
        Check.due("a siren that would be turned off", () -> fair.quietIn(), 0);
        fair.ticks(1);
        Check.due("a pulse", () -> fair.quietIn(), 40);
        Check.due("the siren is on as before", () -> fair.sirenOf(0, 5), 1);
    }

    private static void quietInOne() {
        SirenFair fair = Fairs.standing(-1, -1, 20);
        fair.set(1, 1);
        fair.ticks(20);
        Check.due("pulses that last one tick", () -> fair.quietIn(), 1);
        SirenFair heard = Fairs.standing(-1, -1, 20);
        heard.ticks(20);
        heard.hearer(-1, -1, 0, 0);
        Check.due("one that is heard in the next", () -> heard.quietIn(), 1);
        heard.ticks(1);
        Check.due("and then none", () -> heard.quietIn(), 0);
    }

    private static void quietInNinetyNine() {
        SirenFair fair = Fairs.standing(-1, -1, 1);
        fair.set(1, 99);
        fair.ticks(5);
        Check.due("the youngest lasts 99", () -> fair.quietIn(), 99);
        fair.turn(0, false);
        fair.ticks(98);
        Check.due("at last one tick", () -> fair.quietIn(), 1);
        fair.ticks(1);
        Check.due("and none", () -> fair.quietIn(), 0);
    }

    /** They walk on while all is told; the echo is heard by none and lasts. */
    private static void quietInWhenAllHaveHeard() {
        SirenFair fair = Fairs.standing(-1, -1, 20);
        fair.set(0, 1);
        fair.hearer(11, -1, 0, 0);
        fair.ticks(20);
        Check.due("standing, 12 away", () -> fair.quietIn(), 12);
        fair.walk(0, -1, 0);
        Check.due("coming, 12 away", () -> fair.quietIn(), 6);
        fair.hearer(38, 30, 0, 0);
        Check.due("and one who never hears it", () -> fair.quietIn(), 40);
        SirenFair echo = Fairs.standing(-1, -1, 20);
        echo.hearer(9, -1, 0, 0);
        echo.wall(true, 9);
        echo.ticks(20);
        Check.due("an echo, for one on the wall", () -> echo.quietIn(), 40);
    }

    private static void quietInOfOthersThatAreOff() {
        SirenFair fair = Fairs.standing(-1, -1, 1);
        fair.siren(20, 20, 1, 0, 2);
        fair.siren(20, 20, 1, 0, 1);
        fair.turn(2, false);
        fair.ticks(2);
        Check.due("all are turned off, not one alone", () -> fair.quietIn(), 40);
        Check.due("and none is on or off then but as before",
                () -> 100 * fair.sirenOf(0, 5) + 10 * fair.sirenOf(1, 5) + fair.sirenOf(2, 5), 110);
    }

    /** A siren of a speed comes to one who stands before it; sound as fast as it is late in nothing. */
    private static void leastSpeedOneTwoThree() {
        for (int speed = 1; speed <= 3; speed++) {
            for (int way = -1; way <= 1; way += 2) {
                SirenFair fair = new SirenFair();
                fair.siren(0, 0, 5, way * speed, 1);
                fair.hearer(5 * way, -5 * way, 0, 0);
                int least = speed;
                Check.due("as fast as " + speed, () -> fair.leastSpeed(99), least);
            }
        }
        SirenFair nothing = new SirenFair();
        Check.due("nothing is late in an empty field", () -> nothing.leastSpeed(99), 1);
        SirenFair nobody = new SirenFair();
        nobody.siren(0, 0, 5, 3, 1);
        Check.due("nor without hearers", () -> nobody.leastSpeed(99), 1);
    }

    /** At 11 he heard all but that of 1, which comes at 13. */
    private static SirenFair withOneThatWillBeLate() {
        SirenFair fair = Fairs.overtaking();
        fair.ticks(7);
        return fair;
    }

    private static void leastSpeedNone() {
        SirenFair fair = withOneThatWillBeLate();
        Check.due("one is late already", () -> fair.about(8), 1);
        Check.due("one more with any speed", () -> fair.leastSpeed(2), -1);
        Check.due("also in 99 ticks", () -> fair.leastSpeed(99), -1);
        fair.ticks(2);
        Check.due("when it was heard, none more", () -> fair.leastSpeed(99), 1);
    }

    /** It comes a tick later than the least speed is asked for. */
    private static void leastSpeedInOneTick() {
        SirenFair fair = withOneThatWillBeLate();
        Check.due("with 1 it is not yet heard in one tick", () -> fair.leastSpeed(1), 1);
        Check.thrown("0 ticks", () -> fair.leastSpeed(0), Check.ARGUMENT);
        fair.ticks(1);
        Check.due("in the next it is, with any speed", () -> fair.leastSpeed(1), -1);
    }

    private static void leastSpeedInNinetyNineTicks() {
        SirenFair fair = new SirenFair();
        fair.set(1, 99);
        fair.siren(0, 0, 5, 3, 1);
        fair.hearer(10, -5, 0, 0);
        fair.turn(0, false);
        Check.due("off, none is late", () -> fair.leastSpeed(99), 1);
        Check.thrown("100 ticks", () -> fair.leastSpeed(100), Check.ARGUMENT);
        fair.turn(0, true);
        Check.due("10 ticks are too few", () -> fair.leastSpeed(10), 1);
        Check.due("11 are enough", () -> fair.leastSpeed(11), 3);
        Check.due("99 too", () -> fair.leastSpeed(99), 3);
    }

    private static int firstTurn(long seed) {
        return (int) (seed * 6364136223846793005L + 1442695040888963407L >>> 33);
    }

    /** One turn of each kind, on a field where what it makes can be told from the pulses and what was heard. */
    private static void simulateOneTurn() {
        int ticksSeen = 0;
        for (long seed = -40; seed < 40; seed++) {
            long s = seed;
            SirenFair fair = Fairs.standing(-1, -1, 1);
            fair.hearer(-1, -1, 0, 0);
            fair.hearer(-1, -2, 0, 0);
            int r = firstTurn(seed);
            int ticks = r % 8 >= 5 ? 1 + r / 8 % 12 : 0;
            ticksSeen += ticks > 0 ? 1 : 0;
            int direct = ticks == 0 ? 0 : 2 * ticks - 1;
            Check.due("seed " + s, () -> fair.simulate(s, 1), 10000L * direct + (ticks > 0 ? 1 : 0));
        }
        Check.isTrue("there were ticks", ticksSeen > 20);
        SirenFair fair = new SirenFair();
        Check.thrown("no turn", () -> fair.simulate(1, 0), Check.ARGUMENT);
    }

    private static void simulateSixtyTurns() {
        SirenFair fair = new SirenFair();
        Check.thrown("61 turns", () -> fair.simulate(1, 61), Check.ARGUMENT);
        boolean different = false;
        for (long seed = 1; seed <= 40; seed++) {
            different = different || fair.simulate(seed, 60) != fair.simulate(seed, 59);
        }
        Check.isTrue("the sixtieth turn counts", different);
    }

    /** What was heard before the turns is not counted, what is there is. */
    private static void simulateBeginsWithWhatThereIs() {
        SirenFair fair = Fairs.full();
        Check.isTrue("there were direct ones", fair.about(6) > 0);
        long seed = 0;
        while (firstTurn(seed) % 8 != 4) {
            seed++;
        }
        long setsTheSound = seed;
        Check.due("a turn without ticks", () -> fair.simulate(setsTheSound, 1), 60);
        while (firstTurn(seed) % 8 != 0) {
            seed++;
        }
        long fifthSiren = seed;
        Check.due("a turn that is left out", () -> fair.simulate(fifthSiren, 1), 60);
        Check.due("four sirens stay", () -> fair.about(0), 4);
    }

    private static SirenFair filled() {
        SirenFair fair = new SirenFair();
        Fairs.fill(fair, 1);
        return fair;
    }

    /** What is told of each hearer and each siren is what then is. */
    private static void heardInOnAFullField() {
        for (int i = 0; i < 16; i++) {
            int h = i / 4;
            int s = i % 4;
            SirenFair fair = filled();
            int told = fair.heardIn(h, s);
            int before = fair.heard(h, s, 0);
            int n = 0;
            while (n < 200 && fair.heard(h, s, 0) == before) {
                fair.ticks(1);
                n++;
            }
            int due = fair.heard(h, s, 0) == before ? -1 : n;
            Check.due("hearer " + h + ", siren " + s, () -> told, due);
        }
    }

    private static void quietInOnAFullField() {
        for (int lasting = 1; lasting <= 99; lasting += 7) {
            SirenFair fair = filled();
            fair.set(1, lasting);
            int told = fair.quietIn();
            for (int s = 0; s < 4; s++) {
                fair.turn(s, false);
            }
            int n = 0;
            while (n < 99 && fair.about(4) > 0) {
                fair.ticks(1);
                n++;
            }
            int due = n;
            Check.due("pulses that last " + lasting, () -> told, due);
        }
    }

    private static void leastSpeedOnAFullField() {
        for (int ticks = 1; ticks <= 99; ticks += 7) {
            int n = ticks;
            int due = -1;
            for (int v = 9; v >= 1; v--) {
                SirenFair fair = filled();
                int before = fair.about(8);
                fair.set(0, v);
                fair.ticks(n);
                due = fair.about(8) == before ? v : due;
            }
            int least = due;
            Check.due("in " + n + " ticks", () -> filled().leastSpeed(n), least);
        }
    }
}
