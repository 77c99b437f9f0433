import java.util.ArrayList;
import java.util.List;

/**
 * Runs of calls drawn by a fixed row of numbers, on SirenFair and on the model, whose answers
 * and exceptions must be the same. Some arguments are at the edges or out of range.
 * No object has more than 512 calls: to look around, the calls so far are made again on a new one.
 */
public final class ModelTest {
    private static final int RUNS = 240;
    private static final int CALLS = 200;
    private static final int CALLS_BETWEEN_LOOKS = 25;
    private static final int[] EXTREMES = {Integer.MIN_VALUE, Integer.MIN_VALUE + 1, -1001, -256, -100, -1, 0, 1, 2, 3,
        4, 60, 61, 100, 255, 256, 1000, 1001, 65536, Integer.MAX_VALUE - 1, Integer.MAX_VALUE};

    private long drawn;
    private SirenFair real;
    private Model model;
    private final List<Check.Call> made = new ArrayList<>();
    private int run;
    private int shy;

    private int draw(int bound) {
        drawn = drawn * 6364136223846793005L + 1442695040888963407L;
        return (int) ((drawn >>> 33) % bound);
    }

    /** Mostly low to high, now and then one beyond or something extreme. */
    private int number(int low, int high) {
        int odd = draw(shy);
        if (odd == 0) {
            return EXTREMES[draw(EXTREMES.length)];
        }
        if (odd == 1) {
            return low - 1;
        }
        if (odd == 2) {
            return high + 1;
        }
        return odd == 3 ? low : odd == 4 ? high : low + draw(high - low + 1);
    }

    /** A call of the run: it is made again when the run is. */
    private void compare(String name, Check.Call ofReal, Check.Call ofModel) {
        made.add(ofReal);
        same(name, ofReal, ofModel);
    }

    private void same(String name, Check.Call ofReal, Check.Call ofModel) {
        Check.due("run " + run + ": " + name, Check.answer(ofReal), Check.answer(ofModel));
    }

    private void makeAgain() {
        real = new SirenFair();
        for (Check.Call call : made) {
            Check.answer(call);
        }
    }

    private void write(String text) {
        for (int i = 0; i < text.length(); i++) {
            int c = text.charAt(i);
            compare("append " + c, () -> real.append(c), () -> model.append(c));
        }
    }

    private String twoDigits(int low, int high) {
        int v = Math.floorMod(number(low, high), 100);
        return (v < 10 ? "0" : "") + v;
    }

    private String digit(int low, int high) {
        return Integer.toString(Math.floorMod(number(low, high), 10));
    }

    private String command() {
        switch (draw(7)) {
            case 0:
                return "s" + twoDigits(10, 70) + twoDigits(10, 70) + digit(1, 5) + digit(0, 6) + twoDigits(1, 20);
            case 1:
                return "h" + twoDigits(0, 80) + twoDigits(0, 80) + digit(0, 4) + digit(0, 4);
            case 2:
                return "w" + (draw(2) == 0 ? "u" : "l") + twoDigits(0, 80);
            case 3:
                return "o" + digit(0, 3) + (draw(2) == 0 ? "+" : "-");
            case 4:
                return "c" + digit(1, 9);
            default:
                return "t" + twoDigits(1, 99);
        }
    }

    private void text() {
        compare("clearText", () -> real.clearText(), () -> model.clearText());
        StringBuilder b = new StringBuilder(draw(20) == 0 ? "u" : "U");
        int many = draw(14);
        for (int i = 0; i < many; i++) {
            b.append(command());
        }
        if (draw(4) == 0) {
            b.setLength(draw(b.length() + 1));
        }
        if (draw(6) == 0) {
            b.append((char) draw(256));
        }
        write(b.toString());
        compare("errorPosition of " + b, () -> real.errorPosition(), () -> model.errorPosition());
        compare("load of " + b, () -> real.load(), () -> model.load());
    }

    private void lookAround() {
        makeAgain();
        lookAtNumbers();
        makeAgain();
        lookAtHeard();
        for (int k = 0; k <= 60; k += 20) {
            makeAgain();
            lookAtPulses(k, k + 20);
        }
        makeAgain();
    }

    private void lookAtNumbers() {
        for (int i = 0; i < 10; i++) {
            int what = i;
            same("about " + what, () -> real.about(what), () -> model.about(what));
            for (int j = 0; j < 4; j++) {
                int n = j;
                same("sirenOf " + n + " " + what, () -> real.sirenOf(n, what), () -> model.sirenOf(n, what));
                same("hearerOf " + n + " " + what, () -> real.hearerOf(n, what), () -> model.hearerOf(n, what));
                same("wallOf " + n + " " + what, () -> real.wallOf(n, what), () -> model.wallOf(n, what));
            }
        }
    }

    private void lookAtHeard() {
        for (int i = 0; i < 16 * 7; i++) {
            int h = i / 28;
            int s = i / 7 % 4;
            int what = i % 7;
            same("heard " + h + " " + s + " " + what, () -> real.heard(h, s, what), () -> model.heard(h, s, what));
        }
    }

    private void lookAtPulses(int first, int behind) {
        for (int i = 6 * first; i < 6 * behind; i++) {
            int k = i / 6;
            int what = i % 6;
            same("pulse " + k + " " + what, () -> real.pulse(k, what), () -> model.pulse(k, what));
        }
    }

    private void act() {
        int a = number(-30, 30);
        int b = number(-30, 30);
        int c = number(1, 5);
        int d = number(-3, 3);
        int e = number(1, draw(2) == 0 ? 4 : 20);
        int x = number(-40, 40);
        int y = number(-40, 40);
        int vx = number(-2, 2);
        int vy = number(-2, 2);
        int who = number(0, 3);
        int n = number(1, draw(3) == 0 ? 99 : 9);
        int what = number(0, 1);
        int v = number(1, what == 0 ? 9 : 99);
        boolean flag = draw(2) == 0;
        switch (draw(12)) {
            case 0:
                compare("siren " + a + " " + b + " " + c + " " + d + " " + e, () -> real.siren(a, b, c, d, e),
                        () -> model.siren(a, b, c, d, e));
                break;
            case 1:
                compare("hearer " + x + " " + y + " " + vx + " " + vy, () -> real.hearer(x, y, vx, vy),
                        () -> model.hearer(x, y, vx, vy));
                break;
            case 2:
                compare("wall " + flag + " " + x, () -> real.wall(flag, x), () -> model.wall(flag, x));
                break;
            case 3:
                compare("turn " + who + " " + flag, () -> real.turn(who, flag), () -> model.turn(who, flag));
                break;
            case 4:
                compare("walk " + who + " " + vx + " " + vy, () -> real.walk(who, vx, vy),
                        () -> model.walk(who, vx, vy));
                break;
            case 5:
                compare("set " + what + " " + v, () -> real.set(what, v), () -> model.set(what, v));
                break;
            default:
                compare("ticks " + n, () -> real.ticks(n), () -> model.ticks(n));
                break;
        }
    }

    private long script(int n) {
        long script = 0;
        for (int i = 0; i < n; i++) {
            int command = 1 + draw(9);
            int zero = draw(12) == 0 ? draw(10) : 0;
            int one = draw(5);
            int two = draw(5);
            int group = draw(8) == 0 ? draw(100000) : command * 10000 + new int[] {zero * 1000 + draw(100),
                one * 1000 + zero * 100 + draw(3), one * 1000 + two * 100 + draw(6) * 10 + zero,
                draw(3) * 1000 + zero * 100 + draw(100), one * 1000 + two * 100 + draw(12), zero * 100 + draw(60),
                one * 1000 + zero * 100 + draw(6), one * 1000 + zero * 100 + draw(41),
                one * 1000 + two * 100 + zero * 10 + draw(3)}[command - 1];
            script = script * 100000 + group;
        }
        int odd = draw(20);
        return odd == 0 ? -script : odd == 1 ? script * 10 + 1 : odd == 2 ? Long.MAX_VALUE : odd == 3 ? Long.MIN_VALUE
                : script;
    }

    private void ask() {
        int who = number(0, 3);
        int other = number(0, 3);
        int n = number(0, 1000);
        int few = number(1, 99);
        int commands = number(1, 3);
        long script = script(Math.max(1, Math.min(3, commands)));
        long seed = drawn * 31 + 7;
        int turns = number(1, 60);
        int way = number(0, 1);
        switch (draw(7)) {
            case 0:
                compare("sirenIn " + who + " " + n + " " + way, () -> real.sirenIn(who, n, way),
                        () -> model.sirenIn(who, n, way));
                break;
            case 1:
                compare("heardIn " + who + " " + other, () -> real.heardIn(who, other),
                        () -> model.heardIn(who, other));
                break;
            case 2:
                compare("quietIn", () -> real.quietIn(), () -> model.quietIn());
                break;
            case 3:
                compare("leastSpeed " + few, () -> real.leastSpeed(few), () -> model.leastSpeed(few));
                break;
            case 4:
                compare("simulate " + seed + " " + turns, () -> real.simulate(seed, turns),
                        () -> model.simulate(seed, turns));
                break;
            default:
                compare("runScript " + commands + " " + script, () -> real.runScript(commands, script),
                        () -> model.runScript(commands, script));
                break;
        }
    }

    private void look() {
        int who = number(0, 3);
        int other = number(0, 3);
        int what = number(0, 5);
        int slot = number(0, 1);
        int k = number(0, 60);
        switch (draw(12)) {
            case 0:
                compare("sirenOf " + who + " " + what, () -> real.sirenOf(who, what), () -> model.sirenOf(who, what));
                break;
            case 1:
                compare("hearerOf " + who + " " + what, () -> real.hearerOf(who, what),
                        () -> model.hearerOf(who, what));
                break;
            case 2:
                compare("wallOf " + who + " " + slot, () -> real.wallOf(who, slot), () -> model.wallOf(who, slot));
                break;
            case 3:
                compare("pulse " + k + " " + what, () -> real.pulse(k, what), () -> model.pulse(k, what));
                break;
            case 4:
                compare("heard " + who + " " + other + " " + what, () -> real.heard(who, other, what),
                        () -> model.heard(who, other, what));
                break;
            case 5:
                compare("about " + what, () -> real.about(what), () -> model.about(what));
                break;
            case 6:
                compare("save " + slot, () -> real.save(slot), () -> model.save(slot));
                break;
            case 7:
                compare("restore " + slot, () -> real.restore(slot), () -> model.restore(slot));
                break;
            case 8:
                compare("append " + k, () -> real.append(k), () -> model.append(k));
                break;
            default:
                compare("undo", () -> real.undo(), () -> model.undo());
                break;
        }
    }

    private void run(int number) {
        run = number;
        drawn = 977L * number + 5;
        real = new SirenFair();
        model = new Model();
        shy = number % 3 == 0 ? 8 : 60;
        made.clear();
        int looked = 0;
        while (made.size() < CALLS) {
            int kind = draw(40);
            if (kind < 20) {
                act();
            } else if (kind < 28) {
                ask();
            } else if (kind < 39) {
                look();
            } else if (draw(number % 2 == 0 ? 2 : 12) == 0) {
                text();
            }
            if (made.size() >= looked + CALLS_BETWEEN_LOOKS) {
                looked = made.size();
                lookAround();
            }
        }
    }

    public static void main(String[] args) {
        ModelTest test = new ModelTest();
        for (int i = 0; i < RUNS; i++) {
            test.run(i);
        }
        Check.end();
    }
}
