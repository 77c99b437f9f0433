/** The sentences of "Actions and undo", and of the save slots, that name an edge, one method for each. */
public final class UndoEdgesTest {
    public static void main(String[] args) {
        actionsThatMakeNothingDifferent();
        undoIsNoAction();
        otherCallsAreNoActions();
        loadIsNoAction();
        restoreIsNoAction();
        refusedCallsAreNoActions();
        fourteenAreRemembered();
        fifteenthForgetsTheOldest();
        undoTakesBackEachAction();
        undoTakesBackOneByOne();
        undoLeavesTextAndSlots();
        undoUntilNoneIsLeft();
        slotsAreTwo();
        slotsAreEmptyAtFirst();
        slotsAreEmptyBehindLoad();
        slotsOutliveARefusedLoad();
        saveOverASavedState();
        restoreOfTheSameTwice();
        restoreForgetsAll();
        restoreOfAnEmptyField();
        restoreOfAFullField();
        undoOnAFullField();
        Check.end();
    }

    private static void left(String name, SirenFair fair, int want) {
        Check.due(name, () -> fair.undo(), want);
    }

    private static void none(String name, SirenFair fair) {
        Check.thrown(name, () -> fair.undo(), Check.STATE);
    }

    private static void actionsThatMakeNothingDifferent() {
        SirenFair fair = new SirenFair();
        fair.siren(0, 0, 1, 0, 1);
        fair.hearer(5, 5, 1, 1);
        for (int round = 0; round < 2; round++) {
            fair.turn(0, true);
            fair.walk(0, 1, 1);
            fair.set(0, 3);
            fair.set(1, 40);
        }
        for (int i = 9; i >= 0; i--) {
            left("each of ten is an action", fair, i);
        }
        none("and no more", fair);
    }

    private static void undoIsNoAction() {
        SirenFair fair = new SirenFair();
        fair.ticks(1);
        fair.ticks(2);
        left("undo of the second", fair, 1);
        left("undo goes on to the first", fair, 0);
        Check.due("and does not come back", () -> fair.about(3), 0);
        none("nothing is left", fair);
        fair.ticks(4);
        left("a new action", fair, 0);
    }

    /** All that can be called but the actions; none of them is remembered, and none is taken back. */
    private static void otherCallsAreNoActions() {
        Whole.Maker before = () -> {
            SirenFair fair = Fairs.small();
            fair.save(0);
            fair.append('o');
            return fair;
        };
        Whole.Maker behind = () -> {
            SirenFair fair = Fairs.small();
            fair.append('o');
            fair.errorPosition();
            fair.about(3);
            fair.sirenOf(0, 6);
            fair.hearerOf(0, 5);
            fair.wallOf(0, 1);
            fair.pulse(0, 5);
            fair.heard(0, 0, 5);
            fair.sirenIn(0, 1000, 0);
            fair.sirenIn(0, 1000, 1);
            fair.heardIn(0, 0);
            fair.quietIn();
            fair.leastSpeed(99);
            fair.runScript(3, 200001009940001L);
            fair.simulate(-1, 60);
            fair.save(0);
            return fair;
        };
        Check.due("all is as without the questions", Whole.of(behind), Whole.of(before));
        SirenFair fair = behind.make();
        for (int i = 5; i >= 0; i--) {
            left("actions of the small fair", fair, i);
        }
        none("save is none", fair);
    }

    private static void loadIsNoAction() {
        SirenFair fair = Fairs.withText("Us40401301h404022t09");
        fair.ticks(3);
        fair.load();
        none("behind load no state is remembered", fair);
        fair.ticks(1);
        left("an action behind it is", fair, 0);
        Check.due("back to what was loaded", () -> fair.about(3), 9);
    }

    private static void restoreIsNoAction() {
        SirenFair fair = new SirenFair();
        fair.ticks(3);
        fair.save(0);
        fair.ticks(4);
        fair.restore(0);
        none("behind restore no state is remembered", fair);
        fair.ticks(1);
        left("an action behind it is", fair, 0);
        Check.due("back to what was restored", () -> fair.about(3), 3);
    }

    private static void refusedCallsAreNoActions() {
        SirenFair fair = new SirenFair();
        fair.ticks(5);
        Check.thrown("siren", () -> fair.siren(0, 0, 1, 0, 21), Check.ARGUMENT);
        Check.thrown("hearer", () -> fair.hearer(0, 0, 0, -3), Check.ARGUMENT);
        Check.thrown("wall", () -> fair.wall(false, 41), Check.ARGUMENT);
        Check.thrown("turn", () -> fair.turn(0, true), Check.BOUNDS);
        Check.thrown("walk", () -> fair.walk(0, 0, 0), Check.BOUNDS);
        Check.thrown("ticks", () -> fair.ticks(100), Check.ARGUMENT);
        Check.thrown("set", () -> fair.set(1, 100), Check.ARGUMENT);
        left("the ticks alone are an action", fair, 0);
        Check.due("and are taken back", () -> fair.about(3), 0);
        none("an undo that is refused", fair);
        Check.due("changes nothing either", () -> fair.about(3), 0);
    }

    private static SirenFair ticked(int times) {
        SirenFair fair = new SirenFair();
        for (int i = 0; i < times; i++) {
            fair.ticks(1);
        }
        return fair;
    }

    private static void fourteenAreRemembered() {
        for (int many = 1; many <= 14; many++) {
            SirenFair fair = ticked(many);
            for (int i = many - 1; i >= 0; i--) {
                int left = i;
                left("of " + many, fair, left);
                Check.due("the time", () -> fair.about(3), left);
            }
            none("all of " + many + " are taken back", fair);
        }
    }

    private static void fifteenthForgetsTheOldest() {
        for (int many = 15; many <= 45; many++) {
            SirenFair fair = ticked(many);
            int oldest = many - 14;
            for (int i = 13; i >= 0; i--) {
                int left = i;
                left("14 of " + many, fair, left);
                Check.due("the time", () -> fair.about(3), oldest + left);
            }
            none("the oldest are forgotten", fair);
            fair.ticks(1);
            left("then there is room again", fair, 0);
            Check.due("the time stays", () -> fair.about(3), oldest);
        }
    }

    /** Two fairs, one of which makes an action more and takes it back. */
    private static void undoTakesBackEachAction() {
        String before = Whole.of(Fairs::small);
        for (int i = 0; i < 8; i++) {
            int kind = i;
            String behind = Whole.of(() -> {
                SirenFair fair = Fairs.small();
                act(fair, kind);
                fair.undo();
                return fair;
            });
            Check.due("action " + kind + " is taken back", behind, before);
        }
    }

    private static void act(SirenFair fair, int kind) {
        switch (kind) {
            case 0 -> fair.siren(1, 1, 1, 1, 1);
            case 1 -> fair.hearer(2, 2, 2, 2);
            case 2 -> fair.wall(false, 3);
            case 3 -> fair.turn(0, false);
            case 4 -> fair.walk(0, -1, 2);
            case 5 -> fair.ticks(99);
            case 6 -> fair.set(0, 9);
            default -> fair.set(1, 1);
        }
    }

    /** Eight actions, and then eight times undo: each time all is as before the action. */
    private static void undoTakesBackOneByOne() {
        String[] before = new String[8];
        for (int i = 0; i < 8; i++) {
            int many = i;
            before[i] = Whole.of(() -> acted(many));
            Check.isTrue("action " + i + " makes something different",
                    !before[i].equals(Whole.of(() -> acted(many + 1))));
        }
        for (int i = 0; i < 8; i++) {
            int many = 8 - i;
            Check.due(many + " of 8 are taken back", Whole.of(() -> {
                SirenFair fair = acted(8);
                for (int j = 0; j < many; j++) {
                    fair.undo();
                }
                return fair;
            }), before[i]);
        }
    }

    private static SirenFair acted(int many) {
        SirenFair fair = Fairs.small();
        for (int kind = 0; kind < many; kind++) {
            act(fair, kind);
        }
        return fair;
    }

    private static void undoLeavesTextAndSlots() {
        SirenFair fair = new SirenFair();
        fair.ticks(5);
        fair.save(1);
        fair.ticks(6);
        fair.append('U');
        fair.save(0);
        left("of two", fair, 1);
        left("of one", fair, 0);
        Check.due("the text stays", () -> fair.append('t'), 2);
        Check.due("slot 1 stays", () -> fair.restore(1), 5);
        Check.due("slot 0 stays", () -> fair.restore(0), 11);
    }

    private static void undoUntilNoneIsLeft() {
        SirenFair fair = new SirenFair();
        none("a new object", fair);
        fair.wall(true, 0);
        left("one action", fair, 0);
        none("is taken back once", fair);
        Check.due("no wall is left", () -> fair.about(2), 0);
        Check.due("a new one has the number again", () -> fair.wall(true, 1), 0);
    }

    private static void slotsAreTwo() {
        SirenFair fair = new SirenFair();
        for (int slot : new int[] {-1, 2}) {
            Check.thrown("save " + slot, () -> fair.save(slot), Check.BOUNDS);
            Check.thrown("restore " + slot, () -> fair.restore(slot), Check.BOUNDS);
        }
        for (int i = 0; i < 2; i++) {
            int slot = i;
            Check.due("save " + slot, () -> fair.save(slot), slot);
            fair.ticks(1);
        }
        for (int i = 0; i < 2; i++) {
            int slot = i;
            Check.due("restore " + slot, () -> fair.restore(slot), slot);
        }
    }

    private static void slotsAreEmptyAtFirst() {
        for (int i = 0; i < 2; i++) {
            int slot = i;
            SirenFair fair = new SirenFair();
            Check.thrown("slot " + slot, () -> fair.restore(slot), Check.STATE);
            fair.save(1 - slot);
            Check.thrown("slot " + slot + " by the other", () -> fair.restore(slot), Check.STATE);
            Check.due("the other", () -> fair.restore(1 - slot), 0);
        }
    }

    private static void slotsAreEmptyBehindLoad() {
        SirenFair fair = Fairs.withText("Ut02");
        fair.ticks(1);
        fair.save(0);
        fair.save(1);
        fair.load();
        Check.thrown("slot 0", () -> fair.restore(0), Check.STATE);
        Check.thrown("slot 1", () -> fair.restore(1), Check.STATE);
        Check.due("the time stays", () -> fair.about(3), 2);
        Check.due("one may be saved again", () -> fair.save(1), 2);
        Check.thrown("the other is still empty", () -> fair.restore(0), Check.STATE);
    }

    private static void slotsOutliveARefusedLoad() {
        SirenFair fair = Fairs.withText("Ut0");
        fair.ticks(6);
        fair.save(0);
        fair.ticks(6);
        Check.thrown("load", () -> fair.load(), Check.STATE);
        Check.due("the time stays", () -> fair.about(3), 12);
        left("the actions stay", fair, 1);
        Check.due("the slot stays", () -> fair.restore(0), 6);
    }

    private static void saveOverASavedState() {
        SirenFair fair = new SirenFair();
        fair.siren(0, 0, 1, 0, 1);
        Check.due("the first", () -> fair.save(0), 0);
        fair.ticks(8);
        fair.wall(true, 1);
        Check.due("the second", () -> fair.save(0), 8);
        fair.ticks(8);
        Check.due("comes back", () -> fair.restore(0), 8);
        Check.due("with its wall", () -> fair.about(2), 1);
    }

    private static void restoreOfTheSameTwice() {
        String once = Whole.of(() -> restored(1));
        Check.due("the slot keeps it", Whole.of(() -> restored(2)), once);
        Check.due("however often", Whole.of(() -> restored(5)), once);
    }

    private static SirenFair restored(int times) {
        SirenFair fair = Fairs.small();
        for (int i = 0; i < times; i++) {
            fair.restore(1);
            fair.siren(1, 1, 1, 1, 1);
            fair.ticks(20);
            fair.restore(1);
        }
        return fair;
    }

    private static void restoreForgetsAll() {
        SirenFair fair = ticked(20);
        fair.save(0);
        fair.restore(0);
        none("of 14 none is left", fair);
        Check.due("the time stays", () -> fair.about(3), 20);
    }

    private static void restoreOfAnEmptyField() {
        SirenFair fair = new SirenFair();
        fair.save(1);
        fair.siren(0, 0, 1, 0, 1);
        fair.hearer(0, 0, 0, 0);
        fair.wall(true, 0);
        fair.ticks(9);
        Check.due("the time then", () -> fair.restore(1), 0);
        for (int i = 0; i < 10; i++) {
            int what = i;
            Check.due("about " + what, () -> fair.about(what), 0);
        }
        Check.thrown("no siren", () -> fair.sirenOf(0, 0), Check.BOUNDS);
        Check.thrown("no hearer", () -> fair.hearerOf(0, 0), Check.BOUNDS);
        Check.thrown("no wall", () -> fair.wallOf(0, 0), Check.BOUNDS);
        Check.thrown("no pulse", () -> fair.pulse(0, 0), Check.BOUNDS);
    }

    /** A field that was full of other things between is as one that was not. */
    private static void restoreOfAFullField() {
        Whole.Maker at = () -> {
            SirenFair fair = new SirenFair();
            fair.save(0);
            Fairs.fill(fair, 1);
            fair.save(1);
            fair.restore(1);
            return fair;
        };
        Whole.Maker between = () -> {
            SirenFair fair = new SirenFair();
            fair.save(0);
            Fairs.fill(fair, 1);
            fair.save(1);
            fair.restore(0);
            Fairs.fill(fair, -1);
            fair.restore(1);
            return fair;
        };
        SirenFair full = at.make();
        Check.due("60 pulses", () -> full.about(4), 60);
        Check.due("the full field comes back", Whole.of(between), Whole.of(at));
    }

    private static void undoOnAFullField() {
        String without = Whole.of(UndoEdgesTest::fullWithoutTheOldest);
        for (int i = 3; i < 8; i++) {
            int kind = i;
            Check.due("action " + kind + " is taken back", Whole.of(() -> {
                SirenFair fair = Fairs.full();
                act(fair, kind);
                fair.turn(3, false);
                fair.walk(3, 2, -2);
                fair.ticks(7);
                for (int j = 0; j < 4; j++) {
                    fair.undo();
                }
                return fair;
            }), without);
        }
    }

    /** As full, but of the 14 remembered states four are forgotten. */
    private static SirenFair fullWithoutTheOldest() {
        SirenFair fair = Fairs.full();
        for (int i = 0; i < 4; i++) {
            fair.set(0, 2);
        }
        for (int i = 0; i < 4; i++) {
            fair.undo();
        }
        return fair;
    }
}
