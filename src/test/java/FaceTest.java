import java.io.IOException;
import java.lang.reflect.Constructor;
import java.lang.reflect.Field;
import java.lang.reflect.Method;
import java.lang.reflect.Modifier;
import java.nio.file.Files;
import java.nio.file.Path;
import java.util.ArrayList;
import java.util.HashSet;
import java.util.List;
import java.util.Set;
import java.util.TreeSet;

/** The public face as the document has it, the constants, and what LANGUAGE.md forbids that a look can see. */
public final class FaceTest {
    private static final String[] FACE = {
        "int put(int,int,int,int,int,int)", "int read(int,int,int)", "int reckon(int,int,int,int)",
        "long part(int,int)", "int compare(int,int)", "int lump(int,int,int)", "int unlump()",
        "int drill(int,int,int)", "int fill(int,int)", "int hole(int,int)", "int lawful(int,int)",
        "int sizes(int)", "int limit(int)", "long pull(int,int)", "int quiet(int)",
        "int bearing(int,int,int,int)", "int trial(int,int,int)", "long reading(int,int,int)",
        "int found(int,int)", "int effect(int,int,int)", "int fewest(int,int,int)", "int drillAll(int,int)",
        "int split(int,int,int,int)", "int nearest(int,int)", "int sheet(int,int)", "int lose(int)",
        "int lay(int,int,int,int)", "long get(int,int)", "int copy(int,int,int,int,int)", "int write(int)",
        "int count(int)", "long digest()"
    };
    private static final String[] FORBIDDEN = {
        "->", "::", "Exact(", "import ", "finally", "synchronized", "assert ", "catch", "throw ", "Math.random",
        "System.out", "System.nanoTime", "System.currentTimeMillis", "package ", "static {", "toString", "hashCode",
        "equals(", "double "
    };

    public static void main(String[] args) throws IOException {
        constants();
        members();
        classesInside();
        fields();
        sourceText();
        Check.end();
    }

    private static void constants() {
        Check.due("NONE", RotorBalancer.NONE, -1);
        Check.due("BAD", RotorBalancer.BAD, -2);
        Check.due("NOT", RotorBalancer.NOT, -3);
        Check.due("FULL", RotorBalancer.FULL, -4);
        Check.due("OVER", RotorBalancer.OVER, -5);
        Check.due("ZERO", RotorBalancer.ZERO, -6);
    }

    private static void members() {
        Set<String> shown = new TreeSet<>();
        Set<String> names = new HashSet<>();
        List<Class<?>> classes = new ArrayList<>(List.of(RotorBalancer.class.getDeclaredClasses()));
        Check.dueTrue("some twelve classes", classes.size() <= 12);
        Check.dueTrue("final", Modifier.isFinal(RotorBalancer.class.getModifiers()));
        for (Method m : RotorBalancer.class.getDeclaredMethods()) {
            if (!Modifier.isPrivate(m.getModifiers())) {
                String parameters = "";
                for (Class<?> p : m.getParameterTypes()) {
                    parameters += (parameters.isEmpty() ? "" : ",") + p.getSimpleName();
                }
                shown.add(m.getReturnType().getSimpleName() + " " + m.getName() + "(" + parameters + ")");
                names.add(m.getName());
                Check.dueTrue(m.getName() + " is public", Modifier.isPublic(m.getModifiers()));
            }
        }
        Check.dueTrue("the methods of the face: " + shown, shown.equals(new TreeSet<>(List.of(FACE))));
        classes.add(RotorBalancer.class);
        for (Class<?> c : classes) {
            for (Method m : c.getDeclaredMethods()) {
                boolean isHidden = c != RotorBalancer.class || Modifier.isPrivate(m.getModifiers());
                Check.dueTrue(m + " bears no name of the face", !isHidden || !names.contains(m.getName()));
                Check.dueTrue(m + " has at most seven parameters", m.getParameterCount() <= 7);
            }
        }
        int constants = 0;
        for (Field f : RotorBalancer.class.getDeclaredFields()) {
            if (!Modifier.isPrivate(f.getModifiers())) {
                constants++;
            }
        }
        Check.due("fields to be seen", constants, 6);
        Constructor<?>[] constructors = RotorBalancer.class.getDeclaredConstructors();
        Check.due("constructors", constructors.length, 1);
        Check.dueTrue("public", Modifier.isPublic(constructors[0].getModifiers()));
    }

    private static void classesInside() {
        for (Class<?> c : RotorBalancer.class.getDeclaredClasses()) {
            int modifiers = c.getModifiers();
            Check.dueTrue(c + " is static", Modifier.isStatic(modifiers));
            Check.dueTrue(c + " is hidden", !Modifier.isPublic(modifiers) && !Modifier.isProtected(modifiers));
        }
    }

    private static void fields() {
        List<Class<?>> classes = new ArrayList<>(List.of(RotorBalancer.class.getDeclaredClasses()));
        classes.add(RotorBalancer.class);
        for (Class<?> c : classes) {
            int ofObjects = 0;
            for (Field f : c.getDeclaredFields()) {
                if (Modifier.isStatic(f.getModifiers())) {
                    Check.dueTrue(f + " is final", Modifier.isFinal(f.getModifiers()));
                } else {
                    ofObjects++;
                }
            }
            Check.dueTrue(c + " has some twenty fields at most", ofObjects <= 20);
        }
    }

    private static void sourceText() throws IOException {
        String code = Files.readString(Path.of("src/main/java/RotorBalancer.java"));
        code = code.replaceAll("(?s)/\\*.*?\\*/", "").replaceAll("//[^\n]*", "");
        for (String text : FORBIDDEN) {
            Check.dueTrue("no '" + text + "' in the class", !code.contains(text));
        }
    }
}
