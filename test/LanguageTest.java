import java.lang.reflect.Constructor;
import java.lang.reflect.Field;
import java.lang.reflect.Method;
import java.lang.reflect.Modifier;
import java.nio.file.Files;
import java.nio.file.Path;
import java.util.List;
import java.util.Set;
import java.util.TreeSet;
import java.util.stream.Stream;

/** The face of the class, and those rules of LANGUAGE.md that can be seen from its text. */
public final class LanguageTest {
    private static final Set<String> FACE = new TreeSet<>(List.of("append(int)", "clearText()", "errorPosition()",
            "load()", "about(int)", "sirenOf(int,int)", "hearerOf(int,int)", "wallOf(int,int)", "pulse(int,int)",
            "heard(int,int,int)", "siren(int,int,int,int,int)", "hearer(int,int,int,int)", "wall(boolean,int)",
            "turn(int,boolean)", "walk(int,int,int)", "ticks(int)", "set(int,int)", "undo()", "sirenIn(int,int,int)",
            "heardIn(int,int)", "quietIn()", "leastSpeed(int)", "runScript(int,long)", "simulate(long,int)",
            "save(int)", "restore(int)"));
    private static final List<String> REFUSED = List.of("->", "::", "catch", "try", "finally", "synchronized", "assert",
            "package", "equals", "hashCode", "toString", "System.out", "Random", "Thread", "nanoTime", "Math.addExact",
            "Object", "String[]", "StackOverflow", "record ", "+ \"", "\" +", "@");

    public static void main(String[] args) throws Exception {
        face();
        nestedClasses();
        text(Files.readAllLines(Path.of("src/main/java/SirenFair.java")));
        Check.end();
    }

    private static void face() {
        Class<?> c = SirenFair.class;
        Check.isTrue("rule 1: public and final", c.getModifiers() == (Modifier.PUBLIC | Modifier.FINAL));
        Set<String> open = new TreeSet<>();
        Set<String> hidden = new TreeSet<>();
        for (Method m : c.getDeclaredMethods()) {
            String types = String.join(",", Stream.of(m.getParameterTypes()).map(Class::getName).toList());
            if (Modifier.isPrivate(m.getModifiers())) {
                hidden.add(m.getName());
            } else {
                open.add(m.getName() + "(" + types + ")");
                Check.due("rule 1: " + m.getName() + " returns", m.getReturnType().getName(), "int");
                Check.isTrue("rule 1: " + m.getName() + " is public", m.getModifiers() == Modifier.PUBLIC);
            }
        }
        Check.due("rule 1: the methods of the face", open.toString(), FACE.toString());
        for (String name : hidden) {
            Check.isTrue("rule 1: " + name + " is no name of the face",
                    FACE.stream().noneMatch(f -> f.startsWith(name + "(")));
        }
        Constructor<?>[] made = c.getDeclaredConstructors();
        Check.isTrue("rule 1: one constructor, public, without arguments",
                made.length == 1 && made[0].getModifiers() == Modifier.PUBLIC && made[0].getParameterCount() == 0);
        for (Field f : c.getDeclaredFields()) {
            boolean isNone = f.getName().equals("NONE");
            Check.isTrue("rule 1: " + f.getName(), isNone || Modifier.isPrivate(f.getModifiers()));
        }
    }

    private static void nestedClasses() {
        Class<?>[] nested = SirenFair.class.getDeclaredClasses();
        Check.isTrue("rule 11: some twelve classes", nested.length <= 11);
        for (Class<?> c : nested) {
            int m = c.getModifiers();
            Check.isTrue("rule 1: " + c.getName(), Modifier.isStatic(m) && !Modifier.isPublic(m)
                    && !Modifier.isProtected(m));
            int fields = 0;
            for (Field f : c.getDeclaredFields()) {
                boolean isConstant = Modifier.isStatic(f.getModifiers());
                Check.isTrue("rule 5: " + f, !isConstant || Modifier.isFinal(f.getModifiers()));
                fields += isConstant ? 0 : 1;
            }
            Check.isTrue("rule 11: the fields of " + c.getName(), fields <= 20);
        }
    }

    private static void text(List<String> lines) {
        int start = -1;
        for (int i = 0; i < lines.size(); i++) {
            String line = lines.get(i);
            String code = line.strip();
            if (code.startsWith("import ")) {
                Check.due("rule 4: line " + (i + 1), code, "import java.util.Arrays;");
            }
            if (!code.startsWith("*") && !code.startsWith("/")) {
                for (String word : REFUSED) {
                    Check.isTrue("line " + (i + 1) + " has " + word, !code.contains(word));
                }
            }
            Check.isTrue("line " + (i + 1) + " has other signs", line.chars().allMatch(c -> c >= 32 && c < 127));
            if (line.matches(" {4}(public|private) [^;={]*\\(.*") || line.matches(" {8}[\\w ]+ \\w+\\(.*\\) \\{")) {
                start = i;
            }
            if (start >= 0 && line.matches(" {4}( {4})?\\}")) {
                Check.isTrue("rule 11: the method of line " + (start + 1) + " is short", i - start <= 60);
                start = -1;
            }
        }
    }
}
