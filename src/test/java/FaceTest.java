import java.lang.reflect.Constructor;
import java.lang.reflect.Field;
import java.lang.reflect.Method;
import java.lang.reflect.Modifier;
import java.util.Arrays;
import java.util.Set;
import java.util.TreeSet;
import java.util.regex.Matcher;
import java.util.regex.Pattern;
import java.util.stream.Collectors;
import java.util.stream.Stream;

/** The public face, and rules 1 and 5 of LANGUAGE.md as far as reflection sees them. */
public final class FaceTest {
    private static final Checks checks = new Checks();

    public static void main(String[] args) {
        constants();
        publicMembers();
        privateMembers();
        documentsFace();
        checks.finish("FaceTest");
    }

    private static void constants() {
        checks.due("BAD", LineMill.BAD, -1);
        checks.due("NONE", LineMill.NONE, -2);
        checks.due("FULL", LineMill.FULL, -3);
    }

    private static void publicMembers() {
        Class<?> face = LineMill.class;
        checks.due("public final class", face.getModifiers() & (Modifier.PUBLIC | Modifier.FINAL),
            Modifier.PUBLIC | Modifier.FINAL);
        Set<String> methods = new TreeSet<>();
        for (Method method : face.getDeclaredMethods()) {
            if (Modifier.isPublic(method.getModifiers())) {
                methods.add(method.getReturnType() + " " + method.getName()
                    + Arrays.toString(method.getParameterTypes()));
            }
        }
        checks.due("public methods", methods.toString(), new TreeSet<>(Set.of(
            "int feed[long, int]", "int again[int, int]", "int clear[]", "void begin[]",
            "int next[]", "int told[int]", "int token[int, int]", "long spelling[int, int]")).toString());
        Set<String> fields = new TreeSet<>();
        for (Field field : face.getFields()) {
            fields.add(Modifier.toString(field.getModifiers()) + " " + field.getType() + " " + field.getName());
        }
        checks.due("public fields", fields.toString(), "[public static final int BAD, "
            + "public static final int FULL, public static final int NONE]");
        checks.due("constructors", face.getDeclaredConstructors().length, 1);
        Constructor<?> constructor = face.getDeclaredConstructors()[0];
        checks.due("constructor is public", constructor.getModifiers(), Modifier.PUBLIC);
        checks.due("constructor's parameters", constructor.getParameterCount(), 0);
    }

    private static void privateMembers() {
        Set<String> publicNames = Set.of("feed", "again", "clear", "begin", "next", "told", "token", "spelling");
        for (Method method : LineMill.class.getDeclaredMethods()) {
            boolean isPublic = Modifier.isPublic(method.getModifiers());
            boolean isPrivate = Modifier.isPrivate(method.getModifiers());
            checks.due(method.getName() + " is public or private", isPublic || isPrivate ? 1 : 0, 1);
            checks.due(method.getName() + " has a name of its own",
                isPrivate && publicNames.contains(method.getName()) ? 1 : 0, 0);
            checks.due(method.getName() + " takes at most seven", Math.max(7, method.getParameterCount()), 7);
        }
        for (Field field : LineMill.class.getDeclaredFields()) {
            int modifiers = field.getModifiers();
            checks.due(field.getName() + " is public or private",
                Modifier.isPublic(modifiers) || Modifier.isPrivate(modifiers) ? 1 : 0, 1);
            checks.due(field.getName() + " is final if it is static",
                Modifier.isStatic(modifiers) && !Modifier.isFinal(modifiers) ? 1 : 0, 0);
        }
    }

    /** The members as the document declares them, without the names of parameters. */
    private static void documentsFace() {
        String block = Book.document().replaceAll("(?s)^.*?```java\n(.*?)```.*$", "$1");
        Set<String> declared = new TreeSet<>();
        Matcher member = Pattern.compile("(?m)^    public (.*);$").matcher(block);
        while (member.find()) {
            declared.add(member.group(1).replaceAll(" \\w+(?=[,)])", ""));
        }
        Set<String> there = new TreeSet<>();
        there.add("static final int BAD = " + LineMill.BAD + ", NONE = " + LineMill.NONE + ", FULL = " + LineMill.FULL);
        there.add("LineMill()");
        for (Method method : LineMill.class.getDeclaredMethods()) {
            if (Modifier.isPublic(method.getModifiers())) {
                there.add(method.getReturnType() + " " + method.getName() + "(" + Stream.of(method.getParameterTypes())
                    .map(Class::getName).collect(Collectors.joining(", ")) + ")");
            }
        }
        checks.due("the document's face", there.toString(), declared.toString());
        checks.due("public final class", block.startsWith("public final class LineMill {") ? 1 : 0, 1);
    }
}
