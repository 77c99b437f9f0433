/** "An object is used for at most 512 calls after it has been made": the 512th still answers what is due. */
public final class CallsTest {
    private static final int CALLS = 512;

    private static SirenFair fair;
    private static int made;

    public static void main(String[] args) {
        ticksOnly();
        heardInAllTicks();
        undoAtTheEnd();
        undoAfterEachAction();
        textsOnly();
        loadsOnly();
        refusedOnly();
        slotsInTurn();
        questionsOnly();
        Check.end();
    }

    private static void begin() {
        fair = new SirenFair();
        made = 0;
    }

    private static void call(String name, Check.Call call, long want) {
        made++;
        Check.due("call " + made + ": " + name, call, want);
    }

    private static void refused(String name, Check.Call call, String want) {
        made++;
        Check.thrown("call " + made + ": " + name, call, want);
    }

    private static void last(String name, Check.Call call, long want) {
        call(name, call, want);
        Check.due("that was the last call", () -> made, CALLS);
    }

    private static void ticksOnly() {
        begin();
        while (made < CALLS - 1) {
            call("ticks", () -> fair.ticks(99), 0);
        }
        last("the time", () -> fair.about(3), 511 * 99);
    }

    /** The most that can be counted: two sirens give four pulses each a tick where a hearer is. */
    private static void heardInAllTicks() {
        for (int what = 3; what < 10; what++) {
            int w = what;
            begin();
            call("siren", () -> fair.siren(0, 0, 1, 0, 1), 0);
            call("siren", () -> fair.siren(0, 0, 1, 0, 1), 1);
            call("hearer", () -> fair.hearer(-1, -1, 0, 0), 0);
            call("wall", () -> fair.wall(true, 0), 0);
            call("wall", () -> fair.wall(true, -2), 1);
            call("wall", () -> fair.wall(false, 0), 2);
            // each echo has 2 to come, and so is heard a tick later than it is given
            call("ticks", () -> fair.ticks(99), 99 * 2 + 98 * 6);
            while (made < CALLS - 1) {
                call("ticks", () -> fair.ticks(99), 99 * 8);
            }
            int ticks = (CALLS - 7) * 99;
            int[] want = {ticks, 6, 8 * ticks, 2 * ticks, 6 * (ticks - 1), 0, ticks};
            last("about " + w, () -> fair.about(w), want[w - 3]);
        }
    }

    private static void undoAtTheEnd() {
        begin();
        while (made < CALLS - 15) {
            call("ticks", () -> fair.ticks(1), 0);
        }
        for (int i = 13; i >= 0; i--) {
            int left = i;
            call("undo", () -> fair.undo(), left);
        }
        last("back by 14", () -> fair.about(3), CALLS - 15 - 14);
    }

    private static void undoAfterEachAction() {
        begin();
        call("ticks", () -> fair.ticks(7), 0);
        call("ticks", () -> fair.ticks(4), 0);
        while (made < CALLS - 2) {
            call("hearer", () -> fair.hearer(1, 2, 1, 1), 0);
            call("undo", () -> fair.undo(), 2);
        }
        call("undo", () -> fair.undo(), 1);
        last("the time", () -> fair.about(3), 7);
    }

    private static void textsOnly() {
        begin();
        for (int round = 0; round < 4; round++) {
            for (int i = 1; i <= 120; i++) {
                int length = i;
                call("append", () -> fair.append(length == 1 ? 'U' : 'x'), length);
            }
            refused("append", () -> fair.append('x'), Check.STATE);
            call("errorPosition", () -> fair.errorPosition(), 1);
            call("clearText", () -> fair.clearText(), 120);
        }
        while (made < CALLS - 1) {
            call("clearText", () -> fair.clearText(), 0);
        }
        last("append", () -> fair.append('U'), 1);
    }

    private static void loadsOnly() {
        begin();
        for (char c : "Ut99".toCharArray()) {
            made++;
            fair.append(c);
        }
        while (made < CALLS - 1) {
            call("load", () -> fair.load(), 0);
        }
        last("the time", () -> fair.about(3), 99);
    }

    private static void refusedOnly() {
        begin();
        while (made < CALLS - 1) {
            refused("undo", () -> fair.undo(), Check.STATE);
        }
        last("quietIn", () -> fair.quietIn(), 0);
    }

    private static void slotsInTurn() {
        begin();
        for (int i = 0; i < 127; i++) {
            int time = i;
            call("save", () -> fair.save(time % 2), time);
            call("ticks", () -> fair.ticks(9), 0);
            call("restore", () -> fair.restore(time % 2), time);
            call("ticks", () -> fair.ticks(1), 0);
        }
        call("save", () -> fair.save(1), 127);
        call("restore", () -> fair.restore(0), 126);
        call("restore", () -> fair.restore(1), 127);
        last("nothing is remembered, but an action is", () -> fair.ticks(99), 0);
    }

    private static void questionsOnly() {
        begin();
        call("siren", () -> fair.siren(0, 0, 2, 1, 1), 0);
        call("hearer", () -> fair.hearer(-2, -2, 0, 0), 0);
        int simulated = fair.simulate(3, 60);
        made++;
        while (made < CALLS - 5) {
            call("sirenIn", () -> fair.sirenIn(0, 1000, made % 2), 1000 % 16);
            call("heardIn", () -> fair.heardIn(0, 0), 2);
            call("leastSpeed", () -> fair.leastSpeed(99), 1);
            call("runScript", () -> fair.runScript(3, 100995000090099L), 2);
            call("simulate", () -> fair.simulate(3, 60), simulated);
        }
        while (made < CALLS - 1) {
            call("quietIn", () -> fair.quietIn(), 0);
        }
        last("the time", () -> fair.about(3), 0);
    }
}
