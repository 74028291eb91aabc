import java.io.IOException;
import java.lang.reflect.Field;
import java.lang.reflect.Member;
import java.lang.reflect.Method;
import java.lang.reflect.Modifier;
import java.nio.file.Files;
import java.nio.file.Path;
import java.util.Arrays;
import java.util.Set;
import java.util.TreeSet;

/** The public face, and those rules of LANGUAGE.md that a machine can look at in short. */
public final class FaceTest {
    private static final Path SOURCE = Path.of("src/main/java/ChainFrames.java");
    private static final String[] FACE = {"cls 1", "fits 2", "join 2", "method 1", "argument 2", "op 4", "guard 5", "compute 1",
        "told 2", "frame 3", "height 2", "form 2", "count 2"};
    private static final Check check = new Check();

    public static void main(String[] args) throws IOException {
        publicFace();
        hiddenMembers();
        classesInside();
        methodsAreShort();
        words();
        check.end();
    }

    private static void publicFace() {
        Set<String> methods = new TreeSet<>();
        for (Method m : ChainFrames.class.getDeclaredMethods()) {
            if (!Modifier.isPrivate(m.getModifiers())) {
                boolean ofInts = m.getReturnType() == int.class && Arrays.stream(m.getParameterTypes()).allMatch(t -> t == int.class);
                methods.add(m.getName() + " " + (ofInts && Modifier.isPublic(m.getModifiers()) ? m.getParameterCount() : -1));
            }
        }
        check.due("methods of the face", methods.toString(), new TreeSet<>(Arrays.asList(FACE)).toString());
        check.due("constructors", ChainFrames.class.getDeclaredConstructors().length, 1);
        check.due("public constructors", ChainFrames.class.getConstructors().length, 1);
        check.due("the class", Modifier.toString(ChainFrames.class.getModifiers()), "public final");
        check.due("NONE", ChainFrames.NONE, -1);
        check.due("BAD", ChainFrames.BAD, -2);
        check.due("NO", ChainFrames.NO, -3);
        check.due("FULL", ChainFrames.FULL, -4);
    }

    private static boolean isHidden(Member member) {
        return Modifier.isPrivate(member.getModifiers());
    }

    private static void hiddenMembers() {
        int shown = 0;
        for (Field f : ChainFrames.class.getDeclaredFields()) {
            shown += isHidden(f) ? 0 : 1;
        }
        check.due("fields that are shown", shown, 4);
        fieldsOf(ChainFrames.class);
    }

    /** Static ones are constants of int; of the others there are some twenty at the most. */
    private static void fieldsOf(Class<?> c) {
        int own = 0;
        for (Field f : c.getDeclaredFields()) {
            boolean isStatic = Modifier.isStatic(f.getModifiers());
            own += isStatic ? 0 : 1;
            boolean isConstant = Modifier.isFinal(f.getModifiers()) && f.getType() == int.class;
            check.due(c.getSimpleName() + "'s static " + f.getName() + " is a constant", !isStatic || isConstant ? 1 : 0, 1);
        }
        check.due(c.getSimpleName() + " has at most twenty fields", own <= 20 ? 1 : 0, 1);
    }

    /** Of the way that the file is written in: a method's head and its end stand four signs deeper than its class's. */
    private static void methodsAreShort() throws IOException {
        int head = -1;
        int line = 0;
        for (String text : Files.readAllLines(SOURCE)) {
            line++;
            if (text.matches(" {4}( {4})?\\w[^=]*\\) \\{")) {
                head = line;
            } else if (head > 0 && text.matches(" {4}( {4})?\\}")) {
                check.due("lines of the method at line " + head + " are at most sixty", line - head < 60 ? 1 : 0, 1);
                head = -1;
            }
        }
    }

    private static void classesInside() {
        Class<?>[] inside = ChainFrames.class.getDeclaredClasses();
        check.due("at most twelve classes", inside.length <= 11 ? 1 : 0, 1);
        for (Class<?> c : inside) {
            check.due(c.getSimpleName() + " is static", Modifier.isStatic(c.getModifiers()) ? 1 : 0, 1);
            fieldsOf(c);
            for (Method m : c.getDeclaredMethods()) {
                boolean isFace = Arrays.stream(FACE).anyMatch(name -> name.startsWith(m.getName() + " "));
                check.due(c.getSimpleName() + "." + m.getName() + " bears a name of the face", isFace ? 1 : 0, 0);
                check.due(m.getName() + " takes at most seven", m.getParameterCount() <= 7 ? 1 : 0, 1);
            }
        }
    }

    private static void words() throws IOException {
        String text = Files.readString(SOURCE);
        for (String word : new String[] {"throw", "try", "catch", "synchronized", "assert", "import", "package", "protected"}) {
            check.due("the word " + word, text.matches("(?s).*\\b" + word + "\\b.*") ? 1 : 0, 0);
        }
        for (String sign : new String[] {"->", "::", "@"}) {
            check.due("the sign " + sign, text.contains(sign) ? 1 : 0, 0);
        }
    }
}
