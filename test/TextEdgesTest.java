/**
 * The sentences of "Text" that name a bound, one method for each: at each place of each command, which of the 256
 * characters are allowed there; and which number each number in a text is.
 */
public final class TextEdgesTest {
    private static final String DIGITS = "0123456789";

    public static void main(String[] args) {
        beginsWithU();
        anyNumberOfCommands();
        centreIs10To70();
        halfSideSpeedPeriod();
        placeIs00To80();
        waysAre0To4();
        wallIsUprightOrLevel();
        turnIsOnOrOff();
        soundIs1To9();
        ticksAre01To99();
        sirenNumbers();
        hearerNumbers();
        wallNumbers();
        turnNumbers();
        soundNumbers();
        ticksNumbers();
        emptyText();
        longestText();
        longestTextThatEndsTooSoon();
        errorAtTheLastPlace();
        leftOut();
        asANewObject();
        Check.end();
    }

    /** Behind a beginning those characters alone are allowed; with one of them the text ends too soon, or is a fair. */
    private static void allows(String beginning, String allowed, boolean isFairThen) {
        for (int i = 0; i < 256; i++) {
            char c = (char) i;
            SirenFair fair = Fairs.withText(beginning + c);
            int length = beginning.length();
            int due = allowed.indexOf(c) < 0 ? length : isFairThen ? -1 : length + 1;
            Check.due("character " + i + " behind " + beginning, () -> fair.errorPosition(), due);
        }
    }

    private static void goesOn(String beginning, String allowed) {
        allows(beginning, allowed, false);
    }

    private static void ends(String beginning, String allowed) {
        allows(beginning, allowed, true);
    }

    /** A number of two digits that is low to high; its first digit stands behind the beginning. */
    private static void twoDigits(String beginning, int low, int high, boolean isFairThen) {
        goesOn(beginning, DIGITS.substring(low / 10, high / 10 + 1));
        for (int tens = low / 10; tens <= high / 10; tens++) {
            int from = Math.max(low - 10 * tens, 0);
            int to = Math.min(high - 10 * tens, 9);
            allows(beginning + tens, DIGITS.substring(from, to + 1), isFairThen);
        }
    }

    private static void beginsWithU() {
        ends("", "U");
    }

    /** Behind each kind of command each kind may begin. */
    private static void anyNumberOfCommands() {
        for (String command : new String[] {"", "s10101001", "h000000", "wu00", "o0+", "c1", "t01"}) {
            goesOn("U" + command, "shwoct");
            goesOn("U" + command + command, "shwoct");
        }
    }

    private static void centreIs10To70() {
        twoDigits("Us", 10, 70, false);
        twoDigits("Us10", 10, 70, false);
        twoDigits("Us70", 10, 70, false);
    }

    private static void halfSideSpeedPeriod() {
        goesOn("Us7010", "12345");
        goesOn("Us40701", "0123456");
        goesOn("Us10105", "0123456");
        twoDigits("Us404010", 1, 20, true);
        twoDigits("Us404056", 1, 20, true);
    }

    private static void placeIs00To80() {
        twoDigits("Uh", 0, 80, false);
        twoDigits("Uh00", 0, 80, false);
        twoDigits("Uh80", 0, 80, false);
        twoDigits("Uwu", 0, 80, true);
        twoDigits("Uwl", 0, 80, true);
    }

    private static void waysAre0To4() {
        goesOn("Uh8000", "01234");
        ends("Uh00800", "01234");
        ends("Uh40404", "01234");
    }

    private static void wallIsUprightOrLevel() {
        goesOn("Uw", "ul");
    }

    private static void turnIsOnOrOff() {
        goesOn("Uo", "0123");
        ends("Uo0", "+-");
        ends("Uo3", "+-");
    }

    private static void soundIs1To9() {
        ends("Uc", "123456789");
    }

    private static void ticksAre01To99() {
        twoDigits("Ut", 1, 99, true);
    }

    private static String two(int n) {
        return "" + n / 10 + n % 10;
    }

    private static SirenFair loaded(String commands) {
        SirenFair fair = Fairs.withText("U" + commands);
        Check.due("none left out of " + commands, () -> fair.load(), 0);
        return fair;
    }

    private static void sirenNumbers() {
        for (int n = 10; n <= 70; n++) {
            int at = n;
            SirenFair fair = loaded("s" + two(n) + two(80 - n) + "1301");
            Check.due("x of a centre", () -> fair.sirenOf(0, 0), at - 40);
            Check.due("y of a centre", () -> fair.sirenOf(0, 1), 40 - at);
        }
        for (int n = 1; n <= 20; n++) {
            int value = n;
            int r = 1 + n % 5;
            int speed = n % 7;
            SirenFair fair = loaded("s4040" + r + speed + two(n));
            Check.due("half side", () -> fair.sirenOf(0, 2), r);
            Check.due("speed", () -> fair.sirenOf(0, 3), speed - 3);
            Check.due("period", () -> fair.sirenOf(0, 4), value);
            Check.due("on", () -> fair.sirenOf(0, 5), 1);
        }
    }

    private static void hearerNumbers() {
        for (int n = 0; n <= 80; n++) {
            int at = n;
            SirenFair fair = loaded("h" + two(n) + two(80 - n) + n % 5 + n / 5 % 5);
            Check.due("x", () -> fair.hearerOf(0, 0), at - 40);
            Check.due("y", () -> fair.hearerOf(0, 1), 40 - at);
            Check.due("vx", () -> fair.hearerOf(0, 2), at % 5 - 2);
            Check.due("vy", () -> fair.hearerOf(0, 3), at / 5 % 5 - 2);
        }
    }

    private static void wallNumbers() {
        for (int n = 0; n <= 80; n++) {
            int at = n;
            SirenFair fair = loaded("wu" + two(n) + "wl" + two(80 - n));
            Check.due("upright", () -> fair.wallOf(0, 0), 1);
            Check.due("at x", () -> fair.wallOf(0, 1), at - 40);
            Check.due("level", () -> fair.wallOf(1, 0), 0);
            Check.due("at y", () -> fair.wallOf(1, 1), 40 - at);
        }
    }

    private static void turnNumbers() {
        String sirens = "s40401301s40401301s40401301s40401301";
        for (int i = 0; i < 4; i++) {
            SirenFair off = loaded(sirens + "o" + i + "-");
            SirenFair on = loaded(sirens + "o0-o1-o2-o3-o" + i + "+");
            for (int j = 0; j < 4; j++) {
                int s = j;
                Check.due("one is off", () -> off.sirenOf(s, 5), s == i ? 0 : 1);
                Check.due("one is on", () -> on.sirenOf(s, 5), s == i ? 1 : 0);
            }
        }
    }

    private static void soundNumbers() {
        for (int v = 1; v <= 9; v++) {
            int value = v;
            SirenFair fair = loaded("c" + v);
            Check.due("setting 0", () -> fair.set(0, 1), value);
            Check.due("setting 1", () -> fair.set(1, 1), 40);
        }
    }

    private static void ticksNumbers() {
        for (int n = 1; n <= 99; n++) {
            int ticks = n;
            SirenFair fair = loaded("t" + two(n));
            Check.due("the time", () -> fair.about(3), ticks);
        }
    }

    private static void emptyText() {
        SirenFair fair = new SirenFair();
        Check.due("an empty text ends too soon at 0", () -> fair.errorPosition(), 0);
        Check.thrown("and is not loaded", () -> fair.load(), Check.STATE);
        Check.due("its length", () -> fair.clearText(), 0);
        Check.due("it may be filled", () -> fair.append('U'), 1);
        Check.due("without commands it is a fair", () -> fair.errorPosition(), -1);
        Check.due("and is loaded", () -> fair.load(), 0);
    }

    /** All of its commands are done, also the last one, of the characters 118 and 119. */
    private static void longestText() {
        Check.due("the longest text", () -> Fairs.LONGEST.length(), 120);
        SirenFair fair = Fairs.withText(Fairs.LONGEST);
        Check.due("is a fair", () -> fair.errorPosition(), -1);
        Check.due("none is left out", () -> fair.load(), 0);
        int[] due = {4, 4, 3, 15};
        for (int i = 0; i < 4; i++) {
            int what = i;
            Check.due("about " + what, () -> fair.about(what), due[what]);
        }
        Check.thrown("it stays full", () -> fair.append('t'), Check.STATE);
        Check.due("its last command", () -> fair.set(0, 1), 9);
        Check.due("its length", () -> fair.clearText(), 120);

        SirenFair sounds = Fairs.withText("U" + "c1".repeat(58) + "t07");
        Check.due("59 commands are a fair", () -> sounds.errorPosition(), -1);
        Check.due("and all are done", () -> sounds.load(), 0);
        Check.due("to the last one", () -> sounds.about(3), 7);
    }

    private static void longestTextThatEndsTooSoon() {
        SirenFair fair = Fairs.withText("U" + "c1".repeat(59));
        Check.due("119 characters are a fair", () -> fair.errorPosition(), -1);
        Check.due("one more", () -> fair.append('t'), 120);
        Check.due("then it ends too soon at 120", () -> fair.errorPosition(), 120);
        Check.thrown("and is not loaded", () -> fair.load(), Check.STATE);
        Check.thrown("nor can it be completed", () -> fair.append('0'), Check.STATE);
    }

    private static void errorAtTheLastPlace() {
        SirenFair fair = Fairs.withText("U" + "c1".repeat(59) + "x");
        Check.due("the character 119 is not allowed", () -> fair.errorPosition(), 119);
        SirenFair digit = Fairs.withText("U" + "c1".repeat(58) + "t0x");
        Check.due("nor is this one", () -> digit.errorPosition(), 119);
        SirenFair first = Fairs.withText("x" + "c1".repeat(59));
        Check.due("the first one is", () -> first.errorPosition(), 0);
    }

    /** Each kind of command that throws, and none of those that do not. */
    private static void leftOut() {
        String full = "s40401301s40401301s40401301s40401301h404022h404022h404022h404022wu40wl40wu41";
        SirenFair fair = Fairs.withText("U" + full + "s10101001h000000wl00o3-c9t99");
        Check.due("a fifth siren, a fifth hearer, a fourth wall", () -> fair.load(), 3);
        Check.due("what is behind them is done", () -> fair.sirenOf(3, 5), 0);
        Check.due("to the end", () -> fair.about(3), 99);
        SirenFair none = Fairs.withText("Uo0+o1-o2+o3-c5");
        Check.due("turns of no sirens", () -> none.load(), 4);
        Check.due("the sound is set", () -> none.set(0, 1), 5);
        SirenFair one = Fairs.withText("Uo0-s40401301o0-o1-");
        Check.due("turns of a siren that is not there yet, or at all", () -> one.load(), 2);
        Check.due("it is off", () -> one.sirenOf(0, 5), 0);
    }

    /** Also the settings, and what was heard and given; the text of a fair that was made full by calls. */
    private static void asANewObject() {
        Whole.Maker used = () -> {
            SirenFair fair = Fairs.full();
            fair.clearText();
            Fairs.write(fair, "Us40401301t05");
            fair.load();
            return fair;
        };
        Whole.Maker unused = () -> {
            SirenFair fair = Fairs.withText("Us40401301t05");
            fair.load();
            return fair;
        };
        Check.due("a loaded fair is as one loaded anew", Whole.of(used), Whole.of(unused));
    }
}
