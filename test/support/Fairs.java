/** Fairs that more than one test asks. */
final class Fairs {
    /** A fair of 120 characters, the most that a text can have. */
    static final String LONGEST = "Us40401301s10105020s70701608s12655502h000000h808044h400022h104042wu00wl80wu45c9"
            + "o0-t01o1+t02o2-o3+t03c1t04o0+o2+c2t05c3c9";

    private Fairs() {
    }

    static void write(SirenFair fair, String text) {
        for (int i = 0; i < text.length(); i++) {
            fair.append(text.charAt(i));
        }
    }

    static SirenFair withText(String text) {
        SirenFair fair = new SirenFair();
        write(fair, text);
        return fair;
    }

    /** A siren that stands at (x, y), the north western corner of the smallest ring. */
    static SirenFair standing(int x, int y, int period) {
        SirenFair fair = new SirenFair();
        fair.siren(x + 1, y + 1, 1, 0, period);
        return fair;
    }

    /**
     * At the time 4, by a sound of 1, four pulses are on their way from a siren of speed 3 to one who stands still:
     * given at 1, 2, 3, 4 at ways of 12, 9, 6, 7 from him, heard at 13, 11, 9, 11.
     */
    static SirenFair overtaking() {
        SirenFair fair = new SirenFair();
        fair.set(0, 1);
        fair.siren(0, 0, 5, 3, 1);
        fair.hearer(10, -5, 0, 0);
        fair.ticks(4);
        fair.turn(0, false);
        return fair;
    }

    /** One of each, pulses, late ones, a text that is no fair, some remembered states, one slot. */
    static SirenFair small() {
        SirenFair fair = withText("Us40401301h");
        fair.set(0, 1);
        fair.siren(0, 0, 5, 3, 1);
        fair.hearer(14, -5, -1, 0);
        fair.wall(true, 12);
        fair.ticks(25);
        fair.save(1);
        fair.ticks(9);
        return fair;
    }

    /** As many as there can be of all: sirens, hearers, walls, pulses, remembered states, slots; but a short text. */
    static SirenFair full() {
        SirenFair fair = withText("Us10701620t09");
        addFour(fair, 1);
        fair.wall(true, -3);
        fair.save(0);
        fair.wall(false, 21);
        fair.ticks(30);
        fair.wall(true, 35);
        fair.save(1);
        fair.set(1, 99);
        fair.set(0, 2);
        fair.turn(3, false);
        fair.walk(2, 1, 1);
        for (int i = 0; i < 8; i++) {
            fair.ticks(3 + i);
        }
        fair.turn(3, true);
        return fair;
    }

    /** Four sirens and four hearers, which with another kind, 1 or -1, are at other places and go otherwise. */
    static void addFour(SirenFair fair, int kind) {
        for (int i = 0; i < 4; i++) {
            fair.siren(kind * (10 * i - 15), 5 - 3 * i, 1 + i, kind * (3 - 2 * i), 2 - kind + i);
            fair.hearer(20 - 9 * i, kind * (7 * i - 10), i - 2, kind * (2 - i));
        }
    }

    /** Four sirens, four hearers, three walls and 60 pulses, by kinds as above. */
    static void fill(SirenFair fair, int kind) {
        addFour(fair, kind);
        for (int i = -1; i <= 1; i++) {
            fair.wall(i == kind, 13 * i + kind);
        }
        fair.set(0, 2);
        fair.turn(3, kind > 0);
        fair.ticks(50);
    }
}
