/** What the document's terms say of a tick, of pulses and of hearing (promises 6 to 11 and 17 look at it). */
public final class TickTest {
    public static void main(String[] args) {
        rings();
        edges();
        directPulses();
        mirroredPlaces();
        echoes();
        echoOfWalker();
        goneByHearing();
        goneByAge();
        goneBySixty();
        latePulses();
        pauses();
        beats();
        lateComer();
        Check.end();
    }

    private static void rings() {
        int[][] ring = {{-1, -1}, {0, -1}, {1, -1}, {1, 0}, {1, 1}, {0, 1}, {-1, 1}, {-1, 0}};
        for (int speed = -3; speed <= 3; speed++) {
            SirenFair fair = new SirenFair();
            fair.siren(0, 0, 1, speed, 20);
            for (int n = 1; n < 20; n++) {
                fair.ticks(1);
                int place = Math.floorMod(n * speed, 8);
                Check.due("7: place", () -> fair.sirenOf(0, 6), place);
                Check.due("7: x", () -> fair.sirenOf(0, 7), ring[place][0]);
                Check.due("7: y", () -> fair.sirenOf(0, 8), ring[place][1]);
            }
        }
        SirenFair big = new SirenFair();
        big.siren(-30, 30, 5, 1, 20);
        int[][] corners = {{-35, 25}, {-25, 25}, {-25, 35}, {-35, 35}};
        for (int i = 0; i < 8; i++) {
            int[] corner = corners[i % 4];
            Check.due("7: corner x", () -> big.sirenOf(0, 7), corner[0]);
            Check.due("7: corner y", () -> big.sirenOf(0, 8), corner[1]);
            big.ticks(10);
        }
        Check.due("7: twice round", () -> big.sirenOf(0, 6), 0);
        for (int r = 1; r <= 5; r++) {
            wholeRing(r);
        }
    }

    /** East, south, west and north again, 2 * r steps each. */
    private static void wholeRing(int r) {
        SirenFair fair = new SirenFair();
        fair.siren(7, -9, r, 1, 20);
        int x = 7 - r;
        int y = -9 - r;
        for (int n = 1; n <= 16 * r; n++) {
            fair.ticks(1);
            int side = (n - 1) / (2 * r) % 4;
            x += side == 0 ? 1 : side == 2 ? -1 : 0;
            y += side == 1 ? 1 : side == 3 ? -1 : 0;
            int wantX = x;
            int wantY = y;
            Check.due("7: x of the ring of " + r, () -> fair.sirenOf(0, 7), wantX);
            Check.due("7: y of the ring of " + r, () -> fair.sirenOf(0, 8), wantY);
        }
    }

    private static void edges() {
        SirenFair fair = new SirenFair();
        fair.hearer(38, -38, 2, -2);
        fair.hearer(-39, 39, -2, 2);
        fair.hearer(40, -40, 0, 0);
        fair.ticks(1);
        hearerIs(fair, 0, 40, -40, 2, -2);
        hearerIs(fair, 1, -40, 40, 2, -2);
        hearerIs(fair, 2, 40, -40, 0, 0);
        fair.ticks(1);
        hearerIs(fair, 0, 40, -40, -2, 2);
        hearerIs(fair, 1, -38, 38, 2, -2);
        fair.ticks(1);
        hearerIs(fair, 0, 38, -38, -2, 2);
        fair.ticks(40);
        hearerIs(fair, 0, -40, 40, 2, -2);
    }

    private static void hearerIs(SirenFair fair, int h, int... want) {
        for (int what = 0; what < want.length; what++) {
            int w = what;
            Check.due("8: hearer " + h + " " + w, () -> fair.hearerOf(h, w), want[w]);
        }
    }

    private static void pulseIs(SirenFair fair, int k, int... want) {
        for (int what = 0; what < want.length; what++) {
            int w = what;
            Check.due("10: pulse " + k + " " + w, () -> fair.pulse(k, w), want[w]);
        }
    }

    private static void directPulses() {
        SirenFair fair = new SirenFair();
        fair.siren(0, 0, 1, 0, 2);
        fair.hearer(-1, 5, 0, 0);
        fair.hearer(-1, -1, 0, 0);
        Check.due("17: none at time 1", () -> fair.ticks(1), 0);
        Check.due("17: where it stands it is heard at once", () -> fair.ticks(1), 1);
        pulseIs(fair, 0, 0, -1, -1, 2, -1, 2);
        fair.turn(0, false);
        Check.due("17: 6 is farther than 3", () -> fair.ticks(1), 0);
        Check.due("17: 6 is reached by 2 * 3", () -> fair.ticks(1), 1);
        Check.due("6: it is gone", () -> fair.about(4), 0);
        Check.due("6: given", () -> fair.about(5), 1);
        Check.due("6: direct", () -> fair.about(6), 2);
        Check.due("6: echoes", () -> fair.about(7), 0);
        Check.due("11: when", () -> fair.heard(0, 0, 3), 4);
        Check.due("11: when, the other", () -> fair.heard(1, 0, 3), 2);
        Check.due("17: off, it gives no more", () -> fair.ticks(50), 0);
        Check.due("6: still one", () -> fair.about(5), 1);
    }

    private static void mirroredPlaces() {
        SirenFair fair = new SirenFair();
        fair.siren(-30, 30, 5, 0, 1);
        fair.siren(30, -30, 5, 0, 1);
        fair.wall(true, 40);
        fair.wall(false, 25);
        fair.wall(false, -40);
        fair.ticks(1);
        Check.due("6: no echo of the wall on which it stands", () -> fair.about(4), 7);
        pulseIs(fair, 0, 0, -35, 25, 1, -1, 0);
        pulseIs(fair, 1, 0, 115, 25, 1, 0, 0);
        pulseIs(fair, 2, 0, -35, -105, 1, 2, 0);
        pulseIs(fair, 3, 1, 25, -35, 1, -1, 0);
        pulseIs(fair, 4, 1, 55, -35, 1, 0, 0);
        pulseIs(fair, 5, 1, 25, 85, 1, 1, 0);
        pulseIs(fair, 6, 1, 25, -45, 1, 2, 0);
        Check.thrown("10: no more", () -> fair.pulse(7, 0), Check.BOUNDS);
    }

    private static void echoes() {
        SirenFair fair = new SirenFair();
        fair.siren(0, 0, 1, 0, 1);
        fair.wall(true, 2);
        fair.hearer(0, -1, 0, 0);
        fair.hearer(2, -1, 0, 0);
        fair.hearer(3, -1, 0, 0);
        fair.ticks(1);
        fair.turn(0, false);
        pulseIs(fair, 1, 0, 5, -1, 1, 0, 0);
        Check.due("17: 1 and 3 are near, 4 is not", () -> fair.ticks(1), 2);
        Check.due("17: 4 is, and the echo for the first", () -> fair.ticks(1), 2);
        pulseIs(fair, 0, 0, 5, -1, 1, 0, 1);
        Check.due("17: none else hears it", () -> fair.ticks(37), 0);
        Check.due("6: it lasts", () -> fair.about(4), 1);
        fair.ticks(1);
        Check.due("6: until 40", () -> fair.about(4), 0);
        Check.due("6: one echo", () -> fair.about(7), 1);
        Check.due("11: of the first", () -> fair.heard(0, 0, 1), 1);
        Check.due("11: not of the second", () -> fair.heard(1, 0, 1), 0);
        Check.due("11: not of the third", () -> fair.heard(2, 0, 1), 0);

        SirenFair level = new SirenFair();
        level.siren(0, 0, 1, 0, 1);
        level.wall(false, -3);
        level.hearer(9, -2, 0, 0);
        level.hearer(9, -3, 0, 0);
        level.hearer(9, -4, 0, 0);
        level.ticks(1);
        level.turn(0, false);
        level.ticks(30);
        Check.due("11: level, same side", () -> level.heard(0, 0, 1), 1);
        Check.due("11: level, on the wall", () -> level.heard(1, 0, 1), 0);
        Check.due("11: level, other side", () -> level.heard(2, 0, 1), 0);
        Check.due("11: level, direct ones pass", () -> level.heard(2, 0, 0), 1);
    }

    /** Beyond the wall when the echo reaches him, he hears it when he comes to its side. */
    private static void echoOfWalker() {
        SirenFair fair = new SirenFair();
        fair.siren(0, 0, 1, 0, 1);
        fair.wall(true, 2);
        fair.hearer(10, -1, -1, 0);
        fair.ticks(1);
        fair.turn(0, false);
        fair.ticks(7);
        hearerIs(fair, 0, 2, -1, -1, 0);
        Check.due("11: on the wall not yet", () -> fair.heard(0, 0, 1), 0);
        Check.due("17: behind it", () -> fair.ticks(1), 1);
        Check.due("11: the echo", () -> fair.heard(0, 0, 1), 1);
        Check.due("11: is no direct one", () -> fair.heard(0, 0, 3), 4);
    }

    private static void goneByHearing() {
        SirenFair fair = new SirenFair();
        fair.siren(0, 0, 1, 0, 1);
        fair.hearer(-1, -1, 0, 0);
        fair.ticks(5);
        Check.due("6: gone at once", () -> fair.about(4), 0);
        fair.hearer(40, 40, 0, 0);
        fair.ticks(5);
        Check.due("6: not by the first alone", () -> fair.about(4), 5);
        pulseIs(fair, 0, 0, -1, -1, 6, -1, 1);
        pulseIs(fair, 4, 0, -1, -1, 10, -1, 1);
    }

    private static void goneByAge() {
        SirenFair fair = new SirenFair();
        fair.set(1, 4);
        fair.siren(0, 0, 1, 0, 1);
        fair.hearer(-1, 11, 0, 0);
        Check.due("17: heard in the tick in which it goes", () -> fair.ticks(5), 1);
        Check.due("6: ages 0 to 3", () -> fair.about(4), 4);
        pulseIs(fair, 0, 0, -1, -1, 2, -1, 0);
        fair.set(1, 2);
        Check.due("6: taken away in a tick only", () -> fair.about(4), 4);
        Check.due("17: and heard before", () -> fair.ticks(1), 1);
        Check.due("6: ages 0 and 1", () -> fair.about(4), 2);
        fair.set(1, 1);
        fair.ticks(1);
        Check.due("6: age 0", () -> fair.about(4), 1);

        SirenFair deaf = new SirenFair();
        deaf.siren(0, 0, 1, 0, 20);
        deaf.ticks(20);
        deaf.turn(0, false);
        deaf.ticks(39);
        Check.due("6: without hearers it lasts", () -> deaf.about(4), 1);
        deaf.ticks(1);
        Check.due("6: as long as setting 1", () -> deaf.about(4), 0);
    }

    private static void goneBySixty() {
        SirenFair fair = new SirenFair();
        for (int s = 0; s < 4; s++) {
            fair.siren(s, 0, 1, 0, 1);
        }
        fair.wall(true, 30);
        fair.wall(true, 35);
        fair.wall(false, 40);
        fair.ticks(3);
        Check.due("6: 48", () -> fair.about(4), 48);
        fair.ticks(1);
        Check.due("6: at most 60", () -> fair.about(4), 60);
        Check.due("6: of 64", () -> fair.about(5), 64);
        pulseIs(fair, 0, 1, 0, -1, 1, -1, 0);
        pulseIs(fair, 59, 3, 2, 81, 4, 2, 0);
        fair.ticks(1);
        pulseIs(fair, 0, 1, 0, -1, 2, -1, 0);
        pulseIs(fair, 1, 1, 60, -1, 2, 0, 0);
        fair.hearer(40, 40, 0, 0);
        fair.ticks(1);
        pulseIs(fair, 0, 1, 0, -1, 3, -1, 0);
        Check.thrown("10: 60 is none", () -> fair.pulse(60, 0), Check.BOUNDS);
    }

    private static void latePulses() {
        SirenFair fair = Fairs.overtaking();
        Check.due("17: at 8 none", () -> fair.ticks(4), 0);
        Check.due("17: at 9 the third", () -> fair.ticks(1), 1);
        Check.due("6: not late", () -> fair.about(8), 0);
        Check.due("11: no pause yet", () -> fair.heard(0, 0, 4), -1);
        Check.due("11: no sound yet", () -> fair.heard(0, 0, 5), -1);
        Check.due("17: at 11 the second and the fourth", () -> fair.ticks(2), 2);
        Check.due("6: the second is late", () -> fair.about(8), 1);
        Check.due("11: both in one tick", () -> fair.heard(0, 0, 4), 0);
        Check.due("11: higher", () -> fair.heard(0, 0, 5), 1);
        Check.due("17: at 13 the first", () -> fair.ticks(2), 1);
        Check.due("6: it is late", () -> fair.about(8), 2);
        Check.due("11: late ones", () -> fair.heard(0, 0, 2), 2);
        Check.due("11: the pause", () -> fair.heard(0, 0, 4), 2);
        Check.due("11: lower", () -> fair.heard(0, 0, 5), 2);
        Check.due("11: direct ones", () -> fair.heard(0, 0, 0), 4);
        Check.due("11: the latest", () -> fair.heard(0, 0, 3), 13);
        Check.due("7: faster than sound", () -> fair.sirenOf(0, 9), 1);
    }

    private static void pauses() {
        SirenFair fair = new SirenFair();
        fair.siren(0, 0, 1, 0, 3);
        fair.hearer(-1, -1, 0, 0);
        fair.hearer(-1, 2, 0, 1);
        fair.ticks(3);
        Check.due("11: one is no pause", () -> fair.heard(0, 0, 4), -1);
        fair.ticks(3);
        Check.due("11: a pause of 3", () -> fair.heard(0, 0, 4), 3);
        Check.due("11: the same", () -> fair.heard(0, 0, 5), 0);
        fair.ticks(12);
        Check.due("11: going away, lower", () -> fair.heard(1, 0, 5), 2);
        Check.due("11: its pause", () -> fair.heard(1, 0, 4), 4);
    }

    private static void beats() {
        SirenFair fair = new SirenFair();
        fair.siren(0, 0, 1, 0, 2);
        fair.siren(0, 0, 1, 0, 3);
        fair.hearer(-1, -1, 0, 0);
        fair.hearer(-1, -1, 0, 0);
        fair.hearer(40, 40, 0, 0);
        fair.ticks(5);
        Check.due("6: not of one siren", () -> fair.about(9), 0);
        fair.ticks(1);
        Check.due("6: of two sirens, each hearer's", () -> fair.about(9), 2);
        Check.due("8: the first", () -> fair.hearerOf(0, 4), 1);
        Check.due("8: the second", () -> fair.hearerOf(1, 4), 1);
        Check.due("8: not the third", () -> fair.hearerOf(2, 4), 0);
        fair.siren(0, 0, 1, 0, 1);
        fair.ticks(6);
        Check.due("8: by three sirens it is one", () -> fair.hearerOf(0, 4), 5);

        SirenFair echoes = new SirenFair();
        echoes.siren(0, 0, 1, 0, 1);
        echoes.siren(0, 0, 1, 0, 1);
        echoes.turn(1, false);
        echoes.wall(true, 0);
        echoes.hearer(-1, -1, 0, 0);
        echoes.ticks(9);
        Check.due("6: there are echoes", () -> echoes.about(7), 8);
        Check.due("6: but no beats by one siren and its echoes", () -> echoes.about(9), 0);

        SirenFair twice = new SirenFair();
        twice.set(0, 1);
        twice.siren(0, 0, 1, 0, 1);
        twice.hearer(-1, 9, 0, 0);
        twice.ticks(5);
        twice.set(0, 9);
        twice.ticks(1);
        Check.due("6: several of one siren", () -> twice.about(6), 4);
        Check.due("6: are no beat", () -> twice.about(9), 0);
    }

    /** Pulses that are there already can be heard by a new hearer, and then wait for him. */
    private static void lateComer() {
        SirenFair fair = new SirenFair();
        fair.siren(0, 0, 1, 0, 20);
        fair.hearer(-1, -1, 0, 0);
        fair.hearer(40, 40, 0, 0);
        fair.ticks(20);
        pulseIs(fair, 0, 0, -1, -1, 20, -1, 1);
        fair.hearer(-1, 0, 0, 0);
        pulseIs(fair, 0, 0, -1, -1, 20, -1, 1);
        Check.due("17: the new one hears it", () -> fair.ticks(1), 1);
        pulseIs(fair, 0, 0, -1, -1, 20, -1, 5);
    }
}
