import java.io.IOException;
import java.lang.reflect.Field;
import java.lang.reflect.Member;
import java.lang.reflect.Method;
import java.lang.reflect.Modifier;
import java.nio.file.Files;
import java.nio.file.Path;
import java.util.Arrays;
import java.util.Set;
import java.util.TreeSet;

/** The public face, and those rules of LANGUAGE.md that a machine can look at in short. */
public final class FaceTest {
    private static final Path SOURCE = Path.of("src/main/java/ChainFrames.java");
    private static final String[] FACE = {"cls 1", "fits 2", "join 2", "method 1", "argument 2", "op 4", "guard 5", "compute 1",
        "told 2", "frame 3", "height 2", "form 2", "count 2"};
    private static final Check check = new Check();

    public static void main(String[] args) throws IOException {
        publicFace();
        hiddenMembers();
        classesInside();
        words();
        check.end();
    }

    private static void publicFace() {
        Set<String> methods = new TreeSet<>();
        for (Method m : ChainFrames.class.getDeclaredMethods()) {
            if (!Modifier.isPrivate(m.getModifiers())) {
                boolean ofInts = m.getReturnType() == int.class && Arrays.stream(m.getParameterTypes()).allMatch(t -> t == int.class);
                methods.add(m.getName() + " " + (ofInts && Modifier.isPublic(m.getModifiers()) ? m.getParameterCount() : -1));
            }
        }
        check.due("methods of the face", methods.toString(), new TreeSet<>(Arrays.asList(FACE)).toString());
        check.due("constructors", ChainFrames.class.getDeclaredConstructors().length, 1);
        check.due("public constructors", ChainFrames.class.getConstructors().length, 1);
        check.due("the class", Modifier.toString(ChainFrames.class.getModifiers()), "public final");
        check.due("NONE", ChainFrames.NONE, -1);
        check.due("BAD", ChainFrames.BAD, -2);
        check.due("NO", ChainFrames.NO, -3);
        check.due("FULL", ChainFrames.FULL, -4);
    }

    private static boolean isHidden(Member member) {
        return Modifier.isPrivate(member.getModifiers());
    }

    private static void hiddenMembers() {
        int shown = 0;
        for (Field f : ChainFrames.class.getDeclaredFields()) {
            shown += isHidden(f) ? 0 : 1;
            boolean isFixed = !Modifier.isStatic(f.getModifiers()) || Modifier.isFinal(f.getModifiers());
            check.due("static " + f.getName() + " is final", isFixed ? 1 : 0, 1);
        }
        check.due("fields that are shown", shown, 4);
    }

    private static void classesInside() {
        Class<?>[] inside = ChainFrames.class.getDeclaredClasses();
        check.due("at most twelve classes", inside.length <= 11 ? 1 : 0, 1);
        for (Class<?> c : inside) {
            check.due(c.getSimpleName() + " is static", Modifier.isStatic(c.getModifiers()) ? 1 : 0, 1);
            for (Method m : c.getDeclaredMethods()) {
                boolean isFace = Arrays.stream(FACE).anyMatch(name -> name.startsWith(m.getName() + " "));
                check.due(c.getSimpleName() + "." + m.getName() + " bears a name of the face", isFace ? 1 : 0, 0);
                check.due(m.getName() + " takes at most seven", m.getParameterCount() <= 7 ? 1 : 0, 1);
            }
        }
    }

    private static void words() throws IOException {
        String text = Files.readString(SOURCE);
        for (String word : new String[] {"throw", "try", "catch", "synchronized", "assert", "import", "package", "protected"}) {
            check.due("the word " + word, text.matches("(?s).*\\b" + word + "\\b.*") ? 1 : 0, 0);
        }
        for (String sign : new String[] {"->", "::", "@"}) {
            check.due("the sign " + sign, text.contains(sign) ? 1 : 0, 0);
        }
    }
}
