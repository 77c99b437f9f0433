/** Promises 26 and 27: the save slots. */
public final class SlotsTest {
    public static void main(String[] args) {
        arguments();
        saveAndRestore();
        bothSlots();
        savingIsNoAction();
        Check.end();
    }

    private static void arguments() {
        SirenFair fair = new SirenFair();
        for (int slot : new int[] {Integer.MIN_VALUE, -1, 2, Integer.MAX_VALUE}) {
            Check.thrown("26: slot " + slot, () -> fair.save(slot), Check.BOUNDS);
            Check.thrown("27: slot " + slot, () -> fair.restore(slot), Check.BOUNDS);
        }
        Check.thrown("27: nothing in 0", () -> fair.restore(0), Check.STATE);
        Check.thrown("27: nothing in 1", () -> fair.restore(1), Check.STATE);
        fair.save(1);
        Check.thrown("27: still nothing in 0", () -> fair.restore(0), Check.STATE);
        Check.due("27: something in 1", () -> fair.restore(1), 0);
    }

    private static void saveAndRestore() {
        SirenFair fair = new SirenFair();
        fair.siren(0, 0, 2, 1, 1);
        fair.hearer(10, 10, 1, 1);
        fair.wall(true, 20);
        fair.set(0, 5);
        fair.set(1, 50);
        fair.ticks(12);
        int pulses = fair.about(4);
        Check.due("26: the time", () -> fair.save(0), 12);
        int first = fair.ticks(50);
        fair.siren(1, 1, 1, 1, 1);
        fair.hearer(1, 1, 1, 1);
        fair.wall(false, 1);
        fair.turn(0, false);
        fair.set(0, 1);
        fair.set(1, 1);
        for (int i = 0; i < 3; i++) {
            Check.due("27: the time then", () -> fair.restore(0), 12);
            Check.thrown("27: all states are forgotten", () -> fair.undo(), Check.STATE);
            Check.due("27: sirens", () -> fair.about(0), 1);
            Check.due("27: hearers", () -> fair.about(1), 1);
            Check.due("27: walls", () -> fair.about(2), 1);
            Check.due("27: pulses", () -> fair.about(4), pulses);
            Check.due("27: on", () -> fair.sirenOf(0, 5), 1);
            Check.due("27: the slot keeps it", () -> fair.ticks(50), first);
            Check.due("27: setting 0", () -> fair.set(0, 1), 5);
            Check.due("27: setting 1", () -> fair.set(1, 1), 50);
        }
        fair.append('U');
        fair.restore(0);
        Check.due("27: the text stays", () -> fair.clearText(), 1);
    }

    private static void bothSlots() {
        SirenFair fair = new SirenFair();
        fair.ticks(3);
        Check.due("26: into 0", () -> fair.save(0), 3);
        fair.ticks(4);
        Check.due("26: into 1", () -> fair.save(1), 7);
        fair.ticks(5);
        Check.due("27: of 0", () -> fair.restore(0), 3);
        Check.due("27: of 1", () -> fair.restore(1), 7);
        fair.ticks(1);
        Check.due("26: over it", () -> fair.save(0), 8);
        Check.due("27: of 1 again", () -> fair.restore(1), 7);
        Check.due("27: the newer one", () -> fair.restore(0), 8);
        Check.due("27: the time", () -> fair.about(3), 8);
    }

    private static void savingIsNoAction() {
        SirenFair fair = new SirenFair();
        fair.ticks(3);
        fair.ticks(3);
        fair.save(0);
        Check.due("26: no state is remembered for it", () -> fair.undo(), 1);
        Check.due("26: the action before is taken back", () -> fair.about(3), 3);
        Check.due("27: undo does not change the slot", () -> fair.restore(0), 6);
        fair.ticks(1);
        Check.due("27: actions after it are remembered", () -> fair.undo(), 0);
        Check.due("27: back to it", () -> fair.about(3), 6);
    }
}
