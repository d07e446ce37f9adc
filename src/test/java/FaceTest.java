import java.io.IOException;
import java.lang.reflect.Constructor;
import java.lang.reflect.Field;
import java.lang.reflect.Method;
import java.lang.reflect.Modifier;
import java.nio.file.Files;
import java.nio.file.Path;
import java.util.Arrays;
import java.util.List;
import java.util.TreeSet;
import java.util.regex.Matcher;
import java.util.regex.Pattern;

/** The public face, and the rules of LANGUAGE.md that can be seen from outside. */
public final class FaceTest {
    private static final String[] FACE = {
        "int bed(int,int,int)", "long set(int,int,long)", "int drop(int)", "int copy(int,int,int,int,int)",
        "int plant(int,int,int)", "int move(int,int,int)", "int away(int)", "int colour(int,int)",
        "int told(int,int)", "int is(int,int)", "int ask(int,int)", "int trace(int)", "int undo()",
        "int line(int,int,int)", "int through(int,int)", "int lineAt(int)", "int side(int,int)",
        "int halves(int)", "int furrow(int)", "int furrows()", "int depth(int,int,int)", "long deepest(int)",
        "int layer(int)", "int most(int)", "long widest(int)", "int count(int)", "int status()"};

    public static void main(String[] args) throws IOException {
        methods();
        constants();
        classesInside();
        methodsAreShort();
        source();
        Checks.end();
    }

    private static void methods() {
        TreeSet<String> open = new TreeSet<>();
        TreeSet<String> names = new TreeSet<>();
        for (Method m : FurrowField.class.getDeclaredMethods()) {
            if (!m.isSynthetic() && !Modifier.isPrivate(m.getModifiers())) {
                Checks.isTrue(m + " is public", Modifier.isPublic(m.getModifiers()));
                open.add(signature(m));
                names.add(m.getName());
            }
        }
        Checks.isTrue("the methods are those of the document: " + open, open.equals(new TreeSet<>(List.of(FACE))));
        for (Method m : FurrowField.class.getDeclaredMethods()) {
            if (Modifier.isPrivate(m.getModifiers())) {
                Checks.isTrue("no private method bears the name " + m.getName(), !names.contains(m.getName()));
            }
        }
        Constructor<?>[] made = FurrowField.class.getDeclaredConstructors();
        Checks.isTrue("one public constructor", made.length == 1 && Modifier.isPublic(made[0].getModifiers())
            && made[0].getParameterCount() == 0);
        Checks.isTrue("public and final", Modifier.isFinal(FurrowField.class.getModifiers())
            && Modifier.isPublic(FurrowField.class.getModifiers()));
    }

    private static String signature(Method m) {
        String types = String.join(",", Arrays.stream(m.getParameterTypes()).map(Class::getName).toList());
        return m.getReturnType() + " " + m.getName() + "(" + types + ")";
    }

    private static void constants() {
        TreeSet<String> open = new TreeSet<>();
        for (Field f : FurrowField.class.getDeclaredFields()) {
            if (!Modifier.isPrivate(f.getModifiers())) {
                open.add(f.getName());
                Checks.isTrue(f + " is a public constant", Modifier.isPublic(f.getModifiers())
                    && f.getType() == int.class);
            }
            Checks.isTrue(f + " is final if static",
                !Modifier.isStatic(f.getModifiers()) || Modifier.isFinal(f.getModifiers()));
        }
        Checks.isTrue("four constants: " + open, open.equals(new TreeSet<>(List.of("NONE", "BAD", "STATE", "FULL"))));
        Checks.due("NONE", FurrowField.NONE, -1000000);
        Checks.due("BAD", FurrowField.BAD, -1000001);
        Checks.due("STATE", FurrowField.STATE, -1000002);
        Checks.due("FULL", FurrowField.FULL, -1000003);
    }

    private static void classesInside() {
        Class<?>[] inside = FurrowField.class.getDeclaredClasses();
        Checks.isTrue("at most twelve classes", inside.length + 1 <= 12);
        for (Class<?> c : inside) {
            Checks.isTrue(c + " is static", Modifier.isStatic(c.getModifiers()));
            Checks.isTrue(c + " is not open", !Modifier.isPublic(c.getModifiers())
                && !Modifier.isProtected(c.getModifiers()));
            Checks.isTrue(c + " has at most twenty fields", c.getDeclaredFields().length <= 20);
            for (Method m : c.getDeclaredMethods()) {
                Checks.isTrue(m + " takes at most seven", m.getParameterCount() <= 7);
                Checks.isTrue(m + " bears no name of the face",
                    Arrays.stream(FACE).noneMatch(face -> face.contains(" " + m.getName() + "(")));
            }
        }
    }

    /** A method ends at the first brace that stands as far in as the line on which it began. */
    private static void methodsAreShort() throws IOException {
        List<String> lines = Files.readAllLines(Path.of("src/main/java/FurrowField.java"));
        int methods = 0;
        for (int i = 0; i < lines.size(); i++) {
            Matcher m = Pattern.compile("(    |        )\\w[\\w\\[\\] ]+\\(.*\\) \\{").matcher(lines.get(i));
            if (m.matches() && !lines.get(i).matches(" +(if|for|while|switch) .*")) {
                methods++;
                int end = i + lines.subList(i, lines.size()).indexOf(m.group(1) + "}");
                Checks.isTrue("at most sixty lines: " + lines.get(i).strip(), end > i && end - i <= 60);
            }
        }
        Checks.isTrue("the methods were found: " + methods, methods > 27);
    }

    /** Words that the language rules out; comments are left aside. */
    private static void source() throws IOException {
        String text = Files.readString(Path.of("src/main/java/FurrowField.java"));
        String code = text.replaceAll("(?s)/\\*.*?\\*/", "").replaceAll("//[^\n]*", "");
        Pattern ruledOut = Pattern.compile(
            "\\b(throw|throws|try|catch|finally|synchronized|assert|import|package|double|float|System\\.(?!arraycopy)"
            + "|hashCode|toString|\\w*Exact|Random|Thread)\\b|->|::|\\[\\]\\[\\]");
        Matcher m = ruledOut.matcher(code);
        while (m.find()) {
            Checks.isTrue("the code is without " + m.group(), false);
        }
        for (String line : code.split("\n")) {
            boolean makes = Pattern.compile("\\bnew\\b").matcher(line).find();
            boolean inMaking = line.matches("\\s+(private )?final .*|\\s+\\w+(\\[i\\])? = new .*");
            Checks.isTrue("rows are made with the object alone: " + line.strip(), !makes || inMaking);
        }
    }
}
