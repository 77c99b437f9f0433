/** Promises 1 to 5: a new object and the text. */
public final class TextTest {
    public static void main(String[] args) {
        newObject();
        append();
        clearText();
        errorPositions();
        errorPositionsOfNumbers();
        load();
        loadLeavesOut();
        loadForgets();
        loadRefused();
        Check.end();
    }

    private static SirenFair with(String text) {
        SirenFair fair = new SirenFair();
        for (int i = 0; i < text.length(); i++) {
            fair.append(text.charAt(i));
        }
        return fair;
    }

    private static void newObject() {
        SirenFair fair = new SirenFair();
        for (int what = 0; what < 10; what++) {
            int w = what;
            Check.due("1: about " + w, () -> fair.about(w), 0);
        }
        Check.due("1: NONE", () -> SirenFair.NONE, -1);
        Check.thrown("1: no siren", () -> fair.sirenOf(0, 0), Check.BOUNDS);
        Check.thrown("1: no hearer", () -> fair.hearerOf(0, 0), Check.BOUNDS);
        Check.thrown("1: no wall", () -> fair.wallOf(0, 0), Check.BOUNDS);
        Check.thrown("1: no pulse", () -> fair.pulse(0, 0), Check.BOUNDS);
        Check.due("1: no text", () -> fair.clearText(), 0);
        Check.thrown("1: no remembered state", () -> fair.undo(), Check.STATE);
        Check.thrown("1: empty slot 0", () -> fair.restore(0), Check.STATE);
        Check.thrown("1: empty slot 1", () -> fair.restore(1), Check.STATE);
        Check.due("1: the speed of sound", () -> fair.set(0, 9), 3);
        Check.due("1: how long pulses last", () -> fair.set(1, 99), 40);
    }

    private static void append() {
        SirenFair fair = new SirenFair();
        Check.thrown("2: below 0", () -> fair.append(-1), Check.ARGUMENT);
        Check.thrown("2: above 255", () -> fair.append(256), Check.ARGUMENT);
        Check.thrown("2: the least int", () -> fair.append(Integer.MIN_VALUE), Check.ARGUMENT);
        for (int i = 0; i < 120; i++) {
            int c = i % 2 * 255;
            Check.due("2: append " + i, () -> fair.append(c), i + 1);
        }
        Check.thrown("2: full", () -> fair.append(0), Check.STATE);
        Check.thrown("2: full, and out of range", () -> fair.append(256), Check.ARGUMENT);
        Check.due("2: 120 characters stay", () -> fair.clearText(), 120);
    }

    private static void clearText() {
        SirenFair fair = with("Ux");
        Check.due("3: previous length", () -> fair.clearText(), 2);
        Check.due("3: empty", () -> fair.clearText(), 0);
        Check.due("3: an empty text ends too soon", () -> fair.errorPosition(), 0);
        Check.due("3: from the front again", () -> fair.append('U'), 1);
        Check.due("3: a fair again", () -> fair.errorPosition(), -1);
    }

    private static void error(String text, int want) {
        SirenFair fair = with(text);
        Check.due("4: errorPosition of " + text, () -> fair.errorPosition(), want);
        Check.due("4: again, of " + text, () -> fair.errorPosition(), want);
        Check.due("4: the text stays", () -> fair.clearText(), text.length());
    }

    private static void errorPositions() {
        error("", 0);
        error("u", 0);
        error("s", 0);
        error("U", -1);
        error("UU", 1);
        error("U ", 1);
        error("U" + (char) 255, 1);
        error("Us", 2);
        error("Us40401301", -1);
        error("Us4040130", 9);
        error("Us40401301s", 11);
        error("Us404013015", 10);
        error("Uh", 2);
        error("Uh004022", -1);
        error("Uh00402", 7);
        error("Uw", 2);
        error("Uwu", 3);
        error("Uwu8", 4);
        error("Uwu80", -1);
        error("Uwl00", -1);
        error("Uwx00", 2);
        error("Uo", 2);
        error("Uo3", 3);
        error("Uo3+", -1);
        error("Uo3-", -1);
        error("Uo3*", 3);
        error("Uo4+", 2);
        error("Uo-", 2);
        error("Uc", 2);
        error("Uc1", -1);
        error("Uc9", -1);
        error("Uc0", 2);
        error("Uc11", 3);
        error("Ut", 2);
        error("Ut0", 3);
        error("Ut00", 3);
        error("Ut01", -1);
        error("Ut99", -1);
        error("Ut1", 3);
        error("Ut999", 4);
        error("Ut01c5o0+wl40h404022s40401301t99", -1);
        error("Ut01c5o0+wl40h404022s4040130!t99", 28);
    }

    private static void errorPositionsOfNumbers() {
        error("Us09", 2);
        error("Us10", 4);
        error("Us69", 4);
        error("Us70", 4);
        error("Us71", 3);
        error("Us79", 3);
        error("Us80", 2);
        error("Us1000", 4);
        error("Us1071", 5);
        error("Us1010", 6);
        error("Us10103", 7);
        error("Us101030", 8);
        error("Us101036", 8);
        error("Us10103601", -1);
        error("Us10700", 6);
        error("Us10705", 7);
        error("Us10706", 6);
        error("Us107016", 8);
        error("Us107017", 7);
        error("Us10701000", 9);
        error("Us10701009", -1);
        error("Us10701010", -1);
        error("Us10701019", -1);
        error("Us10701020", -1);
        error("Us10701021", 9);
        error("Us1070103", 8);
        error("Uh00", 4);
        error("Uh80", 4);
        error("Uh81", 3);
        error("Uh90", 2);
        error("Uh0080", 6);
        error("Uh0081", 5);
        error("Uh0000", 6);
        error("Uh000000", -1);
        error("Uh000044", -1);
        error("Uh0000/0", 6);
        error("Uh00000/", 7);
        error("Uh00000:", 7);
        error("Uh008004", -1);
        error("Uh008044", -1);
        error("Uh008005", 7);
        error("Uh00805", 6);
        error("Uwu81", 4);
        error("Uwl90", 3);
        error("U/", 1);
        error("Ut:0", 2);
        error("Ut/0", 2);
    }

    private static void load() {
        SirenFair fair = with("Us10701620h008004wu80wl00c7");
        Check.due("5: none left out", () -> fair.load(), 0);
        int[] siren = {-30, 30, 1, 3, 20, 1, 0, -31, 29, 0};
        for (int what = 0; what < 10; what++) {
            int w = what;
            Check.due("5: siren " + w, () -> fair.sirenOf(0, w), siren[w]);
        }
        int[] hearer = {-40, 40, -2, 2, 0, 0};
        for (int what = 0; what < 6; what++) {
            int w = what;
            Check.due("5: hearer " + w, () -> fair.hearerOf(0, w), hearer[w]);
        }
        Check.due("5: upright", () -> fair.wallOf(0, 0), 1);
        Check.due("5: at 40", () -> fair.wallOf(0, 1), 40);
        Check.due("5: level", () -> fair.wallOf(1, 0), 0);
        Check.due("5: at -40", () -> fair.wallOf(1, 1), -40);
        Check.due("5: the text stays", () -> fair.clearText(), 27);
        Check.due("5: the speed of sound", () -> fair.set(0, 1), 7);

        SirenFair ticked = with("Us40401401t09o0-t90");
        Check.due("5: with ticks", () -> ticked.load(), 0);
        Check.due("5: the time", () -> ticked.about(3), 99);
        Check.due("5: given while on", () -> ticked.about(5), 9);
        Check.due("5: off", () -> ticked.sirenOf(0, 5), 0);
        Check.due("5: where it stopped", () -> ticked.sirenOf(0, 6), 1);
    }

    private static void loadLeavesOut() {
        String siren = "s40401301";
        SirenFair sirens = with("U" + siren + siren + siren + siren + siren + "o3-o3+o0-" + siren);
        Check.due("5: two sirens too many", () -> sirens.load(), 2);
        Check.due("5: four sirens", () -> sirens.about(0), 4);
        Check.due("5: the first is off", () -> sirens.sirenOf(0, 5), 0);
        Check.due("5: the fourth is on again", () -> sirens.sirenOf(3, 5), 1);
        SirenFair hearers = with("Uh404022h404022h404022h404022h404022");
        Check.due("5: a hearer too many", () -> hearers.load(), 1);
        SirenFair walls = with("Uwu40wu40wl40wl40wl41o0+t01");
        Check.due("5: two walls too many, no siren", () -> walls.load(), 3);
        Check.due("5: what follows is done", () -> walls.about(3), 1);
        Check.due("5: once more, as in a new object", () -> walls.load(), 3);
        Check.due("5: not added twice", () -> walls.about(2), 3);
        Check.due("5: the time begins again", () -> walls.about(3), 1);
    }

    private static void loadForgets() {
        SirenFair fair = with("U");
        fair.siren(0, 0, 1, 0, 1);
        fair.set(0, 9);
        fair.set(1, 2);
        fair.ticks(5);
        fair.save(0);
        fair.save(1);
        Check.due("5: an empty fair", () -> fair.load(), 0);
        for (int what = 0; what < 10; what++) {
            int w = what;
            Check.due("5: about " + w, () -> fair.about(w), 0);
        }
        Check.thrown("5: nothing to undo", () -> fair.undo(), Check.STATE);
        Check.thrown("5: slot 0 is empty", () -> fair.restore(0), Check.STATE);
        Check.thrown("5: slot 1 is empty", () -> fair.restore(1), Check.STATE);
        Check.due("5: setting 0", () -> fair.set(0, 1), 3);
        Check.due("5: setting 1", () -> fair.set(1, 1), 40);
        Check.due("5: then actions are remembered", () -> fair.undo(), 1);
    }

    private static void loadRefused() {
        SirenFair fair = with("Ut01t");
        fair.siren(0, 0, 1, 0, 1);
        fair.ticks(2);
        fair.save(1);
        Check.thrown("5: not a fair", () -> fair.load(), Check.STATE);
        Check.due("5: nothing changed", () -> fair.about(3), 2);
        Check.due("5: the slot stays", () -> fair.restore(1), 2);
        Check.due("5: the text stays", () -> fair.append('0'), 6);
        Check.due("5: it ends too soon", () -> fair.errorPosition(), 6);
        Check.due("5: it is a fair then", () -> fair.append('2'), 7);
        Check.due("5: and is loaded", () -> fair.load(), 0);
        Check.due("5: its ticks", () -> fair.about(3), 3);
        Check.thrown("5: an empty text", () -> new SirenFair().load(), Check.STATE);
    }
}
