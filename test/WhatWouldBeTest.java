/** Promises 20 to 25: what would be, scripts and simulations, all of which change nothing. */
public final class WhatWouldBeTest {
    public static void main(String[] args) {
        sirenIn();
        heardIn();
        heardInTicks();
        quietIn();
        leastSpeed();
        scriptArguments();
        scriptActions();
        scriptQuestions();
        scriptOtherGroups();
        simulate();
        simulateTurns();
        simulateCrowded();
        simulateDrawn();
        simulateFull();
        changeNothing();
        Check.end();
    }

    private static void sirenIn() {
        for (int speed = -3; speed <= 3; speed++) {
            for (int r = 1; r <= 5; r++) {
                SirenFair fair = new SirenFair();
                fair.siren(0, 0, r, speed, 1);
                fair.ticks(5);
                for (int n : new int[] {0, 1, 2, 7, 8, 99, 999, 1000}) {
                    int want = Math.floorMod((n + 5) * speed, 8 * r);
                    Check.due("20: tick by tick", () -> fair.sirenIn(0, n, 0), want);
                    Check.due("20: at once", () -> fair.sirenIn(0, n, 1), want);
                }
                int stands = fair.sirenOf(0, 6);
                fair.turn(0, false);
                Check.due("20: off, tick by tick", () -> fair.sirenIn(0, 17, 0), stands);
                Check.due("20: off, at once", () -> fair.sirenIn(0, 17, 1), stands);
            }
        }
        SirenFair fair = new SirenFair();
        fair.siren(0, 0, 1, 1, 1);
        for (int v : new int[] {Integer.MIN_VALUE, -1, 1001, Integer.MAX_VALUE}) {
            Check.thrown("20: n " + v, () -> fair.sirenIn(0, v, 0), Check.ARGUMENT);
            Check.thrown("20: way " + v, () -> fair.sirenIn(0, 0, v), Check.ARGUMENT);
            Check.thrown("20: siren " + v, () -> fair.sirenIn(v, 0, 0), Check.BOUNDS);
            Check.thrown("20: all " + v, () -> fair.sirenIn(v, v, v), Check.BOUNDS);
        }
        Check.thrown("20: way 2", () -> fair.sirenIn(0, 0, 2), Check.ARGUMENT);
        Check.thrown("20: siren 1", () -> fair.sirenIn(1, 0, 2), Check.BOUNDS);
    }

    private static void heardIn() {
        SirenFair fair = new SirenFair();
        fair.siren(0, 0, 1, 0, 20);
        Check.thrown("21: no hearer", () -> fair.heardIn(0, 0), Check.BOUNDS);
        fair.hearer(-1, -1, 0, 0);
        fair.hearer(-1, 5, 0, 0);
        Check.due("21: with the next pulse", () -> fair.heardIn(0, 0), 20);
        Check.due("21: when it has come", () -> fair.heardIn(1, 0), 22);
        fair.ticks(20);
        Check.due("21: the next one then", () -> fair.heardIn(0, 0), 20);
        Check.due("21: on its way", () -> fair.heardIn(1, 0), 2);
        fair.turn(0, false);
        Check.due("21: none is to come", () -> fair.heardIn(0, 0), -1);
        Check.due("21: still on its way", () -> fair.heardIn(1, 0), 2);
        fair.siren(0, 0, 1, 0, 1);
        fair.turn(1, false);
        Check.due("21: not of the other siren", () -> fair.heardIn(1, 1), -1);
        for (int v : new int[] {Integer.MIN_VALUE, -1, 2, Integer.MAX_VALUE}) {
            Check.thrown("21: hearer " + v, () -> fair.heardIn(v, 0), Check.BOUNDS);
            Check.thrown("21: siren " + v, () -> fair.heardIn(0, v), Check.BOUNDS);
        }

        SirenFair echo = new SirenFair();
        echo.siren(-30, 0, 1, 0, 20);
        echo.hearer(40, -1, 0, 0);
        echo.wall(true, -32);
        echo.set(0, 1);
        Check.due("21: 71 ticks are too long for 40", () -> echo.heardIn(0, 0), -1);
        echo.set(1, 99);
        Check.due("21: not for 99", () -> echo.heardIn(0, 0), 91);
        echo.ticks(90);
        Check.due("21: the next tick", () -> echo.heardIn(0, 0), 1);
        echo.ticks(1);
        Check.due("21: the second pulse, not the echo of the first", () -> echo.heardIn(0, 0), 20);
        Check.due("6: the echo is heard sooner", () -> echo.ticks(19), 1);
        Check.due("6: as an echo", () -> echo.about(7), 1);

        // at 1 he goes east; at 40 he is back at 2, which the pulse of 39 has reached
        SirenFair walker = new SirenFair();
        walker.siren(0, 0, 1, 0, 1);
        walker.set(1, 1);
        walker.hearer(-1, -1, 2, 0);
        walker.ticks(1);
        Check.due("21: heard within 3 only", () -> walker.heardIn(0, 0), 39);
    }

    /** Walkers who come by at different times: heardIn counts the ticks up to 200. */
    private static void heardInTicks() {
        boolean[] seen = new boolean[400];
        for (int i = 0; i < 81 * 40; i++) {
            int x = i % 81 - 40;
            int y = i / 81 - 20;
            SirenFair fair = new SirenFair();
            fair.siren(0, 0, 1, 0, 1);
            fair.set(0, 1);
            fair.set(1, 1);
            fair.hearer(x, y, 1, 2);
            int told = fair.heardIn(0, 0);
            int n = 0;
            do {
                n++;
            } while (fair.ticks(1) == 0 && n < 399);
            seen[n] = true;
            Check.due("21: from " + x + " " + y, () -> told, n <= 200 ? n : -1);
        }
        Check.isTrue("21: one came at 200", seen[200]);
        Check.isTrue("21: one came at 201", seen[201]);
    }

    private static void quietIn() {
        SirenFair fair = new SirenFair();
        Check.due("22: none at all", () -> fair.quietIn(), 0);
        fair.siren(0, 0, 1, 0, 4);
        Check.due("22: none now", () -> fair.quietIn(), 0);
        fair.ticks(4);
        Check.due("22: they last", () -> fair.quietIn(), 40);
        fair.ticks(3);
        Check.due("22: less three", () -> fair.quietIn(), 37);
        fair.set(1, 99);
        Check.due("22: they last longer", () -> fair.quietIn(), 96);
        fair.ticks(1);
        Check.due("22: by the latest", () -> fair.quietIn(), 99);
        fair.hearer(-1, 5, 0, 0);
        Check.due("22: until the hearer has heard them", () -> fair.quietIn(), 2);
        fair.hearer(-1, -1, 0, 0);
        Check.due("22: until both have", () -> fair.quietIn(), 2);
        fair.set(1, 1);
        Check.due("22: until they are taken away", () -> fair.quietIn(), 1);
        Check.due("22: the siren is still on", () -> fair.sirenOf(0, 5), 1);
    }

    private static void leastSpeed() {
        SirenFair fair = new SirenFair();
        for (int n : new int[] {Integer.MIN_VALUE, -1, 0, 100, Integer.MAX_VALUE}) {
            Check.thrown("23: " + n, () -> fair.leastSpeed(n), Check.ARGUMENT);
        }
        Check.due("23: without anything", () -> fair.leastSpeed(1), 1);
        fair.set(0, 9);
        // given at 1, 2, 3 and 4, with a speed of 1 heard at 13, 11, 9 and 11
        fair.siren(0, 0, 5, 3, 1);
        fair.hearer(10, -5, 0, 0);
        Check.due("23: none is late by 10", () -> fair.leastSpeed(10), 1);
        // with 2 heard at 7, 7, 6; with 3 at 5, 5, 5 and 7
        Check.due("23: the second is by 11", () -> fair.leastSpeed(11), 3);
        Check.due("23: as fast as the siren is fast enough", () -> fair.leastSpeed(99), 3);
        Check.due("23: the setting stays", () -> fair.set(0, 9), 9);

        SirenFair before = new SirenFair();
        before.set(0, 1);
        before.siren(0, 0, 5, 3, 1);
        before.hearer(10, -5, 0, 0);
        before.ticks(30);
        before.turn(0, false);
        before.ticks(40);
        Check.isTrue("23: there were late ones", before.about(8) > 0);
        Check.due("23: earlier late ones do not count", () -> before.leastSpeed(99), 1);

        // he heard that of 3 at 9, and so that of 2 is late at 11, with any speed
        SirenFair none = new SirenFair();
        none.set(0, 1);
        none.siren(0, 0, 5, 3, 1);
        none.hearer(10, -5, 0, 0);
        none.ticks(10);
        Check.due("23: the first is late with any speed", () -> none.leastSpeed(1), -1);
        Check.due("23: also in more ticks", () -> none.leastSpeed(99), -1);
    }

    private static void scriptArguments() {
        SirenFair fair = new SirenFair();
        for (int n : new int[] {Integer.MIN_VALUE, -1, 0, 4, Integer.MAX_VALUE}) {
            Check.thrown("24: n " + n, () -> fair.runScript(n, 10001), Check.ARGUMENT);
        }
        Check.thrown("24: no commands at all", () -> fair.runScript(0, 0), Check.ARGUMENT);
        for (int i = 1; i <= 3; i++) {
            int n = i;
            long first = Long.parseLong("1" + "00000".repeat(n));
            Check.thrown("24: too many digits for " + n, () -> fair.runScript(n, first), Check.ARGUMENT);
            Check.due("24: all digits for " + n, () -> fair.runScript(n, first - 1), 0);
            Check.due("24: zeros before it for " + n, () -> fair.runScript(n, 0), 0);
            Check.thrown("24: negative", () -> fair.runScript(n, -1), Check.ARGUMENT);
            Check.thrown("24: the least", () -> fair.runScript(n, Long.MIN_VALUE), Check.ARGUMENT);
            Check.thrown("24: the greatest", () -> fair.runScript(n, Long.MAX_VALUE), Check.ARGUMENT);
        }
        Check.due("24: the highest group is the first", () -> fair.runScript(2, 1000100000L), 1);
        Check.due("24: a group of zeros before it fails", () -> fair.runScript(2, 10001), 0);
        Check.due("24: the third fails", () -> fair.runScript(3, 100016000010000L), 2);
        Check.due("24: none fails", () -> fair.runScript(3, 100016000010099L), -1);
    }

    private static SirenFair heard() {
        SirenFair fair = new SirenFair();
        fair.siren(0, 0, 1, 0, 2);
        fair.siren(0, 0, 2, 1, 3);
        fair.hearer(-1, -1, 0, 0);
        fair.hearer(40, 40, 0, 0);
        fair.ticks(6);
        return fair;
    }

    private static void script(SirenFair fair, int n, long script, int want) {
        Check.due("24: script " + script, () -> fair.runScript(n, script), want);
    }

    private static void scriptActions() {
        SirenFair fair = heard();
        script(fair, 1, 10000, 0);
        script(fair, 1, 10001, -1);
        script(fair, 1, 10099, -1);
        script(fair, 2, 1000481010L, -1);
        script(fair, 2, 1000581010L, 1);
        script(fair, 3, 210001000481006L, -1);
        script(fair, 3, 210001000481007L, 2);
        script(fair, 3, 210011000481010L, -1);
        script(fair, 1, 21001, -1);
        script(fair, 1, 21002, 0);
        script(fair, 1, 22001, 0);
        script(fair, 1, 31220, -1);
        script(fair, 1, 30000, -1);
        script(fair, 1, 30440, -1);
        script(fair, 1, 30540, 0);
        script(fair, 1, 30450, 0);
        script(fair, 1, 32220, 0);
        script(fair, 1, 40001, -1);
        script(fair, 1, 40009, -1);
        script(fair, 1, 40010, 0);
        script(fair, 1, 40000, 0);
        script(fair, 1, 41001, -1);
        script(fair, 1, 41099, -1);
        script(fair, 1, 41000, 0);
        script(fair, 1, 42001, 0);
        // with pulses that last one tick, at 8 there are only those of 8; by default there are those of 2, 3, 4, 6 too
        script(fair, 3, 410011000260001L, -1);
        script(fair, 2, 1000260001L, 1);
        script(fair, 3, 400091002050100L, -1);
        // walking away by (1, 1) from where the siren stands, he does not hear in the tick of the pulse
        script(fair, 3, 302201000250004L, -1);
        script(fair, 3, 303301000250004L, 2);
    }

    private static void scriptQuestions() {
        SirenFair fair = heard();
        script(fair, 1, 50003, -1);
        script(fair, 1, 50004, 0);
        script(fair, 1, 50000, -1);
        script(fair, 1, 51000, -1);
        script(fair, 1, 51001, 0);
        script(fair, 1, 52000, 0);
        script(fair, 1, 50200, 0);
        int pulses = fair.about(4);
        script(fair, 1, 60000 + pulses, -1);
        script(fair, 1, 60000 + pulses - 1, 0);
        script(fair, 1, 60000 + pulses + 1, -1);
        script(fair, 1, 60099, -1);
        int beats = fair.hearerOf(0, 4);
        Check.due("24: there was one beat", () -> beats, 1);
        script(fair, 1, 70000, -1);
        script(fair, 1, 70001, -1);
        script(fair, 1, 70002, 0);
        script(fair, 1, 70099, 0);
        script(fair, 1, 71000, -1);
        script(fair, 1, 71001, 0);
        script(fair, 1, 72000, 0);
        script(fair, 1, 80000, -1);
        script(fair, 1, 81006, -1);
        script(fair, 1, 81005, 0);
        script(fair, 1, 82000, 0);
        script(fair, 1, 90000, -1);
        script(fair, 1, 90001, 0);
        script(fair, 1, 90002, 0);
        script(fair, 1, 91000, 0);
        script(fair, 1, 91009, 0);
        script(fair, 1, 92000, 0);
        script(fair, 1, 90200, 0);
    }

    private static void scriptOtherGroups() {
        SirenFair fair = heard();
        long[] others = {0, 1, 9999, 10101, 11001, 21011, 21101, 20003, 31221, 40101, 41103, 60199, 61099, 70100, 80100,
            80010, 90010, 99999};
        for (long group : others) {
            script(fair, 1, group, 0);
        }
    }

    private static void simulate() {
        SirenFair fair = heard();
        for (int m : new int[] {Integer.MIN_VALUE, -1, 0, 61, Integer.MAX_VALUE}) {
            Check.thrown("25: m " + m, () -> fair.simulate(0, m), Check.ARGUMENT);
        }
        long[] seeds = {0, 1, -1, Long.MIN_VALUE, Long.MAX_VALUE, 123456789012345L};
        for (long seed : seeds) {
            for (int m = 1; m <= 60; m++) {
                int turns = m;
                Check.due("25: seed " + seed + ", " + m + " turns", () -> fair.simulate(seed, turns),
                        byCalls(heard(), seed, m));
            }
        }
    }

    /** The turns of a simulation, called on the object itself. */
    private static int byCalls(SirenFair fair, long seed, int m) {
        int direct = fair.about(6);
        int late = fair.about(8);
        long x = seed;
        for (int i = 0; i < m; i++) {
            x = x * 6364136223846793005L + 1442695040888963407L;
            int r = (int) (x >>> 33);
            int q = r / 8;
            Check.answer(() -> turnOf(fair, r % 8, q));
        }
        return 10000 * ((fair.about(6) - direct) % 10000) + 100 * ((fair.about(8) - late) % 100) + fair.about(4);
    }

    private static int turnOf(SirenFair fair, int kind, int q) {
        switch (kind) {
            case 0:
                return fair.siren(q % 61 - 30, q / 64 % 61 - 30, 1 + q / 4096 % 5, q / 32768 % 7 - 3,
                        1 + q / 262144 % 20);
            case 1:
                return fair.hearer(q % 81 - 40, q / 128 % 81 - 40, q / 16384 % 5 - 2, q / 131072 % 5 - 2);
            case 2:
                return fair.wall(q % 2 == 1, q / 2 % 81 - 40);
            case 3:
                return fair.turn(q % 4, q / 4 % 2 == 1);
            case 4:
                return fair.set(0, 1 + q % 9);
            default:
                return fair.ticks(1 + q % 12);
        }
    }

    /** Two sirens faster than sound, with hearers all round, a wall, and many late pulses already. */
    private static SirenFair crowded() {
        SirenFair fair = new SirenFair();
        fair.set(0, 1);
        fair.siren(-2, -2, 5, 3, 1);
        fair.siren(2, -3, 5, -3, 1);
        fair.hearer(10, 0, 0, 0);
        fair.hearer(-10, 0, 0, 0);
        fair.hearer(0, 10, 0, 0);
        fair.hearer(0, -10, 0, 0);
        fair.wall(true, 17);
        fair.ticks(60);
        return fair;
    }

    private static void simulateCrowded() {
        SirenFair fair = crowded();
        Check.isTrue("25: late ones before", fair.about(8) > 0);
        boolean sawMany = false;
        for (long seed = 0; seed < 60; seed++) {
            long s = seed;
            SirenFair other = crowded();
            int before = other.about(8);
            int want = byCalls(other, s, 60);
            sawMany = sawMany || other.about(8) - before >= 100;
            Check.due("25: crowded, seed " + s, () -> fair.simulate(s, 60), want);
        }
        Check.isTrue("25: there were 100 late ones or more", sawMany);
    }

    /** Seeds enough that each kind of turn, left out or done, makes a difference somewhere. */
    private static void simulateTurns() {
        for (long seed = 0; seed < 300; seed++) {
            long s = seed * 0x9E3779B97F4A7C15L;
            SirenFair fair = new SirenFair();
            Check.due("25: seed " + s, () -> fair.simulate(s, 60), byCalls(new SirenFair(), s, 60));
        }
    }

    /** The multiplier's inverse: what it is multiplied by to give 1 with long overflow. */
    private static long inverse() {
        long inverse = 1;
        for (int i = 0; i < 64; i++) {
            inverse *= 2 - 6364136223846793005L * inverse;
        }
        return inverse;
    }

    /** A seed by which the first turn draws r, and the second one ticks, 10 to 12 of them. */
    private static long seedOf(int r) {
        for (long low = 0; low < 10000; low++) {
            long x = ((long) r << 33) + low;
            int next = (int) (x * 6364136223846793005L + 1442695040888963407L >>> 33);
            if (next % 8 >= 5 && next / 8 % 12 >= 9) {
                return (x - 1442695040888963407L) * inverse();
            }
        }
        throw new IllegalStateException("no such seed for " + r);
    }

    /** The first turn by the least and the greatest r, and by those between which a divisor makes a difference. */
    private static void simulateDrawn() {
        int[] q = {0, 1, 60, 61, 63, 64, 80, 81, 127, 128, 60 * 64, 61 * 64 - 1, 61 * 64, 4095, 4096, 5 * 4096 - 1,
            5 * 4096, 16383, 16384, 5 * 16384, 32767, 32768, 3 * 32768, 7 * 32768 - 1, 7 * 32768, 131071, 131072,
            5 * 131072, 262143, 262144, 262145, 19 * 262144, 20 * 262144 - 1, 20 * 262144, 3 * 262144, 5 * 262144 - 1,
            (1 << 28) - 1, (1 << 28) - 2, 161, 162, 8, 9, 11, 12, 3, 4, 7};
        for (int i = 0; i < q.length * 8; i++) {
            long seed = seedOf(8 * q[i / 8] + i % 8);
            SirenFair fair = few();
            Check.due("25: q " + q[i / 8] + ", kind " + i % 8, () -> fair.simulate(seed, 2), byCalls(few(), seed, 2));
        }
    }

    /** Room for one more of each, beside a siren and hearers on all sides. */
    private static SirenFair few() {
        SirenFair fair = new SirenFair();
        fair.set(0, 7);
        fair.siren(0, 0, 3, -2, 3);
        fair.siren(-20, 9, 2, 3, 2);
        fair.hearer(-15, -15, 1, 1);
        fair.hearer(15, -10, -1, 1);
        fair.hearer(-3, 20, 0, -1);
        fair.wall(false, 25);
        fair.ticks(5);
        return fair;
    }

    /** As many as there can be of all, on what is tried too; before it something else was tried. */
    private static void simulateFull() {
        for (long seed = 1; seed <= 40; seed++) {
            long s = seed;
            SirenFair fair = Fairs.full();
            Check.due("25: full, seed " + s, () -> fair.simulate(s, 60), byCalls(Fairs.full(), s, 60));
            Check.due("25: again, seed " + -s, () -> fair.simulate(-s, 7), byCalls(Fairs.full(), -s, 7));
        }
    }

    private static void changeNothing() {
        SirenFair fair = heard();
        int[] before = new int[10];
        for (int what = 0; what < 10; what++) {
            before[what] = fair.about(what);
        }
        fair.sirenIn(0, 1000, 0);
        fair.heardIn(0, 0);
        fair.quietIn();
        fair.leastSpeed(99);
        fair.runScript(3, 200001000940001L);
        fair.simulate(5, 60);
        for (int what = 0; what < 10; what++) {
            int w = what;
            Check.due("20 to 25: about " + w + " stays", () -> fair.about(w), before[w]);
        }
        Check.due("20 to 25: the siren is on", () -> fair.sirenOf(0, 5), 1);
        Check.due("20 to 25: no action", () -> fair.undo(), 4);
        Check.due("20 to 25: the setting stays", () -> fair.set(0, 1), 3);
    }
}
