/**
 * All that a fair can be asked, as one text: what there is, what would be, the text, the settings,
 * the remembered states and the save slots. It is asked of fairs that are made anew, so that none of
 * them has more than 512 calls: a maker may make 140.
 */
final class Whole {
    interface Maker {
        SirenFair make();
    }

    private final StringBuilder told = new StringBuilder();

    private Whole() {
    }

    static String of(Maker maker) {
        Whole whole = new Whole();
        whole.field(maker.make());
        whole.pulses(maker.make());
        whole.wouldBe(maker.make());
        whole.text(maker.make());
        whole.remembered(maker.make());
        whole.slot(maker.make(), 0);
        whole.slot(maker.make(), 1);
        return whole.told.toString();
    }

    private String tell(String name, Check.Call call) {
        String answer = Check.answer(call);
        told.append(name).append(' ').append(answer).append('\n');
        return answer;
    }

    private void about(SirenFair fair) {
        for (int i = 0; i < 10; i++) {
            int what = i;
            tell("about " + what, () -> fair.about(what));
        }
    }

    private void field(SirenFair fair) {
        about(fair);
        for (int i = 0; i < 4; i++) {
            int n = i;
            for (int j = 0; j < 10; j++) {
                int what = j;
                tell("sirenOf " + n + " " + what, () -> fair.sirenOf(n, what));
            }
            for (int j = 0; j < 6; j++) {
                int what = j;
                tell("hearerOf " + n + " " + what, () -> fair.hearerOf(n, what));
            }
            tell("wallOf " + n + " 0", () -> fair.wallOf(n, 0));
            tell("wallOf " + n + " 1", () -> fair.wallOf(n, 1));
            heard(fair, n);
        }
    }

    private void heard(SirenFair fair, int h) {
        for (int i = 0; i < 24; i++) {
            int s = i / 6;
            int what = i % 6;
            tell("heard " + h + " " + s + " " + what, () -> fair.heard(h, s, what));
        }
    }

    private void pulses(SirenFair fair) {
        int many = fair.about(4);
        for (int i = 0; i < 6 * many; i++) {
            int k = i / 6;
            int what = i % 6;
            tell("pulse " + k + " " + what, () -> fair.pulse(k, what));
        }
        tell("pulse behind the last", () -> fair.pulse(many, 0));
    }

    /** With the previous settings at the end, as only an action answers them. */
    private void wouldBe(SirenFair fair) {
        for (int i = 0; i < 16; i++) {
            int h = i / 4;
            int s = i % 4;
            tell("heardIn " + h + " " + s, () -> fair.heardIn(h, s));
            tell("sirenIn " + s, () -> fair.sirenIn(s, 7, h % 2));
        }
        tell("quietIn", () -> fair.quietIn());
        tell("leastSpeed", () -> fair.leastSpeed(40));
        tell("runScript", () -> fair.runScript(3, 100400500160010L));
        tell("simulate", () -> fair.simulate(5, 60));
        tell("set 0", () -> fair.set(0, 1));
        tell("set 1", () -> fair.set(1, 1));
    }

    private void text(SirenFair fair) {
        tell("errorPosition", () -> fair.errorPosition());
        tell("load", () -> fair.load());
        tell("clearText", () -> fair.clearText());
        field(fair);
    }

    private void remembered(SirenFair fair) {
        for (int i = 0; i < 16 && !tell("undo", () -> fair.undo()).startsWith("throws"); i++) {
            about(fair);
            tell("quietIn", () -> fair.quietIn());
            tell("simulate", () -> fair.simulate(-9, 60));
        }
    }

    private void slot(SirenFair fair, int slot) {
        tell("restore " + slot, () -> fair.restore(slot));
        field(fair);
        tell("quietIn", () -> fair.quietIn());
        tell("simulate", () -> fair.simulate(1, 60));
    }
}
