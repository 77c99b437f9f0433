import java.util.ArrayList;
import java.util.List;

/**
 * Exceptions: every kind of call that is refused, on an empty, a small and a full fair: it throws what is due,
 * where several exceptions apply the one that is named first, and all else is answered as without the call.
 */
public final class RefusedTest {
    private interface Action {
        long of(SirenFair fair);
    }

    private record Refused(String name, Action action, String want) {
    }

    private static final int LEAST = Integer.MIN_VALUE;
    private static final int GREATEST = Integer.MAX_VALUE;

    private final List<Refused> all = new ArrayList<>();

    public static void main(String[] args) {
        fairsAreAsTheyShould();
        on("empty", SirenFair::new, inEveryFair(), inEmptyFair());
        on("small", Fairs::small, inEveryFair(), inSmallFair());
        on("full", RefusedTest::fullWithLongText, inEveryFair(), inFullFair());
        on("without text", RefusedTest::withoutText, inEveryFair(), inFairWithoutText());
        Check.end();
    }

    /** With 120 characters in the text buffer; they leave few calls for the rest. */
    private static SirenFair fullWithLongText() {
        SirenFair fair = new SirenFair();
        for (int i = 0; i < 4; i++) {
            fair.siren(0, 0, 1, 0, 1);
            fair.hearer(10, 10, 0, 0);
        }
        for (int i = 0; i < 3; i++) {
            fair.wall(false, i);
        }
        fair.ticks(6);
        fair.ticks(2);
        Fairs.write(fair, Fairs.LONGEST);
        return fair;
    }

    private static SirenFair withoutText() {
        SirenFair fair = Fairs.full();
        fair.clearText();
        return fair;
    }

    private static void fairsAreAsTheyShould() {
        SirenFair full = fullWithLongText();
        Check.due("the full one has 4 sirens", () -> full.about(0), 4);
        Check.due("and 4 hearers", () -> full.about(1), 4);
        Check.due("and 3 walls", () -> full.about(2), 3);
        Check.due("and 60 pulses", () -> full.about(4), 60);
        Check.due("and 120 characters, a fair", () -> full.errorPosition(), -1);
        Check.due("and 14 remembered states, all but one", () -> full.undo(), 12);
        SirenFair other = Fairs.full();
        Check.due("the other has 60 pulses", () -> other.about(4), 60);
        Check.due("and 14 remembered states", () -> other.undo(), 13);
        SirenFair small = Fairs.small();
        Check.isTrue("the small one has pulses", small.about(4) > 0);
        Check.isTrue("and late ones", small.about(8) > 0);
        Check.due("its whole is told alike twice", Whole.of(Fairs::small), Whole.of(Fairs::small));
        Check.isTrue("and is another one behind a tick", !Whole.of(Fairs::small).equals(Whole.of(() -> {
            SirenFair fair = Fairs.small();
            fair.ticks(1);
            return fair;
        })));
    }

    private static void on(String which, Whole.Maker maker, List<Refused> some, List<Refused> others) {
        String before = Whole.of(maker);
        List<Refused> both = new ArrayList<>(some);
        both.addAll(others);
        for (Refused refused : both) {
            String name = refused.name + " on the fair that is " + which;
            SirenFair once = maker.make();
            Check.thrown(name, () -> refused.action.of(once), refused.want);
            String behind = Whole.of(() -> {
                SirenFair fair = maker.make();
                Check.answer(() -> refused.action.of(fair));
                return fair;
            });
            Check.isTrue(name + " changes nothing", behind.equals(before));
        }
    }

    private void argument(String name, Action action) {
        all.add(new Refused(name, action, Check.ARGUMENT));
    }

    private void bounds(String name, Action action) {
        all.add(new Refused(name, action, Check.BOUNDS));
    }

    private void state(String name, Action action) {
        all.add(new Refused(name, action, Check.STATE));
    }

    /** What is refused however many there are of anything. */
    private static List<Refused> inEveryFair() {
        RefusedTest t = new RefusedTest();
        for (int c : new int[] {LEAST, -1, 256, GREATEST}) {
            t.argument("append " + c, f -> f.append(c));
        }
        for (int what : new int[] {LEAST, -1, 10, GREATEST}) {
            t.argument("about " + what, f -> f.about(what));
        }
        t.argumentsOfNew();
        for (int v : new int[] {LEAST, -1, 0, 100, GREATEST}) {
            t.argument("ticks " + v, f -> f.ticks(v));
            t.argument("set 1 to " + v, f -> f.set(1, v));
            t.argument("leastSpeed " + v, f -> f.leastSpeed(v));
        }
        for (int v : new int[] {LEAST, -1, 0, 10, GREATEST}) {
            t.argument("set 0 to " + v, f -> f.set(0, v));
        }
        for (int what : new int[] {LEAST, -1, 2, GREATEST}) {
            t.argument("set " + what, f -> f.set(what, 1));
            t.argument("set " + what + ", both out of range", f -> f.set(what, 0));
        }
        t.whatIsNone(new int[] {LEAST, -1, 4, GREATEST}, new int[] {LEAST, -1, 3, GREATEST});
        for (int k : new int[] {LEAST, -1, 60, GREATEST}) {
            t.bounds("pulse " + k, f -> f.pulse(k, 0));
            t.bounds("pulse " + k + ", and what", f -> f.pulse(k, 6));
        }
        t.scripts();
        for (int m : new int[] {LEAST, -1, 0, 61, GREATEST}) {
            t.argument("simulate " + m, f -> f.simulate(7, m));
        }
        for (int slot : new int[] {LEAST, -1, 2, GREATEST}) {
            t.bounds("save " + slot, f -> f.save(slot));
            t.bounds("restore " + slot, f -> f.restore(slot));
        }
        return t.all;
    }

    /** Arguments out of range for a new siren, hearer or wall; the full fair has no room for it besides. */
    private void argumentsOfNew() {
        int[][] sirens = {{-31, 0, 1, 0, 1}, {31, 0, 1, 0, 1}, {0, -31, 1, 0, 1}, {0, 31, 1, 0, 1}, {0, 0, 0, 0, 1},
            {0, 0, 6, 0, 1}, {0, 0, 1, -4, 1}, {0, 0, 1, 4, 1}, {0, 0, 1, 0, 0}, {0, 0, 1, 0, 21},
            {LEAST, LEAST, LEAST, LEAST, LEAST}, {GREATEST, GREATEST, GREATEST, GREATEST, GREATEST}};
        for (int[] a : sirens) {
            argument("siren " + a[0] + " " + a[1] + " " + a[2] + " " + a[3] + " " + a[4],
                    f -> f.siren(a[0], a[1], a[2], a[3], a[4]));
        }
        int[][] hearers = {{-41, 0, 0, 0}, {41, 0, 0, 0}, {0, -41, 0, 0}, {0, 41, 0, 0}, {0, 0, -3, 0}, {0, 0, 3, 0},
            {0, 0, 0, -3}, {0, 0, 0, 3}, {LEAST, LEAST, LEAST, LEAST}, {GREATEST, GREATEST, GREATEST, GREATEST}};
        for (int[] a : hearers) {
            argument("hearer " + a[0] + " " + a[1] + " " + a[2] + " " + a[3], f -> f.hearer(a[0], a[1], a[2], a[3]));
        }
        for (int at : new int[] {LEAST, -41, 41, GREATEST}) {
            argument("upright wall " + at, f -> f.wall(true, at));
            argument("level wall " + at, f -> f.wall(false, at));
        }
    }

    /** Numbers that no siren, hearer or wall has, with arguments in their range and out of it. */
    private void whatIsNone(int[] numbers, int[] walls) {
        for (int n : numbers) {
            bounds("sirenOf " + n, f -> f.sirenOf(n, 0));
            bounds("sirenOf " + n + ", and what", f -> f.sirenOf(n, 10));
            bounds("hearerOf " + n, f -> f.hearerOf(n, 0));
            bounds("hearerOf " + n + ", and what", f -> f.hearerOf(n, 6));
            bounds("heard of hearer " + n, f -> f.heard(n, 0, 0));
            bounds("heard of hearer " + n + ", and what", f -> f.heard(n, 0, 6));
            bounds("heard of siren " + n, f -> f.heard(0, n, 0));
            bounds("heard of siren " + n + ", and what", f -> f.heard(0, n, -1));
            bounds("turn " + n, f -> f.turn(n, false));
            bounds("walk " + n, f -> f.walk(n, 0, 0));
            bounds("walk " + n + ", and vx", f -> f.walk(n, 3, 0));
            bounds("walk " + n + ", and vy", f -> f.walk(n, 0, -3));
            bounds("sirenIn " + n, f -> f.sirenIn(n, 0, 0));
            bounds("sirenIn " + n + ", and n", f -> f.sirenIn(n, 1001, 0));
            bounds("sirenIn " + n + ", and way", f -> f.sirenIn(n, 0, 2));
            bounds("heardIn of hearer " + n, f -> f.heardIn(n, 0));
            bounds("heardIn of siren " + n, f -> f.heardIn(0, n));
        }
        for (int w : walls) {
            bounds("wallOf " + w, f -> f.wallOf(w, 0));
            bounds("wallOf " + w + ", and what", f -> f.wallOf(w, 2));
        }
    }

    private void scripts() {
        for (int n : new int[] {LEAST, -1, 0, 4, GREATEST}) {
            argument("runScript of " + n, f -> f.runScript(n, 0));
            argument("runScript of " + n + ", and below 0", f -> f.runScript(n, -1));
        }
        for (int i = 1; i <= 3; i++) {
            int n = i;
            long tooLong = Long.parseLong("1" + "00000".repeat(n));
            argument("runScript of " + n + " below 0", f -> f.runScript(n, -1));
            argument("runScript of " + n + " least", f -> f.runScript(n, Long.MIN_VALUE));
            argument("runScript of " + n + " too long", f -> f.runScript(n, tooLong));
            argument("runScript of " + n + " greatest", f -> f.runScript(n, Long.MAX_VALUE));
        }
    }

    /** The wrong arguments of calls whose siren, hearer or wall is there: n is one that is not. */
    private void argumentsOfWhatIs(int n) {
        for (int what : new int[] {LEAST, -1, 10, GREATEST}) {
            argument("what " + what + " of a siren", f -> f.sirenOf(0, what));
        }
        for (int what : new int[] {LEAST, -1, 6, GREATEST}) {
            argument("what " + what + " of a hearer", f -> f.hearerOf(0, what));
            argument("what " + what + " of a pulse", f -> f.pulse(0, what));
            argument("what " + what + " heard", f -> f.heard(0, 0, what));
            bounds("what " + what + " of no siren", f -> f.heard(0, n, what));
        }
        for (int what : new int[] {LEAST, -1, 2, GREATEST}) {
            argument("what " + what + " of a wall", f -> f.wallOf(0, what));
            argument("sirenIn by way " + what, f -> f.sirenIn(0, 0, what));
        }
        for (int far : new int[] {LEAST, -1, 1001, GREATEST}) {
            argument("sirenIn " + far + " ticks", f -> f.sirenIn(0, far, 0));
            argument("sirenIn " + far + " ticks at once", f -> f.sirenIn(0, far, 1));
        }
        for (int v : new int[] {LEAST, -3, 3, GREATEST}) {
            argument("walk by vx " + v, f -> f.walk(0, v, 0));
            argument("walk by vy " + v, f -> f.walk(0, 0, v));
        }
    }

    private static List<Refused> inEmptyFair() {
        RefusedTest t = new RefusedTest();
        t.whatIsNone(new int[] {0, 1}, new int[] {0, 1});
        t.bounds("pulse 0", f -> f.pulse(0, 0));
        t.state("undo", f -> f.undo());
        t.state("restore 0", f -> f.restore(0));
        t.state("restore 1", f -> f.restore(1));
        t.state("load without a text", f -> f.load());
        return t.all;
    }

    private static List<Refused> inSmallFair() {
        RefusedTest t = new RefusedTest();
        t.argumentsOfWhatIs(1);
        t.whatIsNone(new int[] {1}, new int[] {1});
        int pulses = Fairs.small().about(4);
        t.bounds("the pulse behind the last", f -> f.pulse(pulses, 0));
        t.state("restore 0", f -> f.restore(0));
        t.state("load of a text that ends too soon", f -> f.load());
        return t.all;
    }

    private static List<Refused> inFullFair() {
        RefusedTest t = new RefusedTest();
        t.argumentsOfWhatIs(4);
        t.state("a 121st character", f -> f.append('c'));
        t.state("a 121st character, 0", f -> f.append(0));
        t.state("a 121st character, 255", f -> f.append(255));
        t.state("a fifth siren", f -> f.siren(0, 0, 1, 0, 1));
        t.state("a fifth hearer", f -> f.hearer(0, 0, 0, 0));
        t.state("a fourth wall", f -> f.wall(true, 0));
        t.state("restore 0", f -> f.restore(0));
        t.state("restore 1", f -> f.restore(1));
        return t.all;
    }

    private static List<Refused> inFairWithoutText() {
        RefusedTest t = new RefusedTest();
        t.argumentsOfWhatIs(4);
        t.state("a fifth siren", f -> f.siren(-30, -30, 5, 3, 20));
        t.state("a fifth hearer", f -> f.hearer(40, 40, 2, 2));
        t.state("a fourth wall", f -> f.wall(false, -40));
        t.state("load without a text", f -> f.load());
        return t.all;
    }
}
