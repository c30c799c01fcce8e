import java.lang.reflect.Constructor;
import java.lang.reflect.Field;
import java.lang.reflect.Member;
import java.lang.reflect.Method;
import java.lang.reflect.Modifier;
import java.nio.file.Files;
import java.nio.file.Path;
import java.util.ArrayList;
import java.util.Arrays;
import java.util.List;
import java.util.TreeSet;
import java.util.regex.Matcher;
import java.util.regex.Pattern;

/** The public face is the document's, sign for sign, and nothing else of the class can be seen. */
public final class FaceTest {
    public static void main(String[] args) throws Exception {
        Check.same("modifiers", Modifier.toString(DominoChains.class.getModifiers()), "public final");
        Check.same("face", seen(), documented());
        for (Class<?> inside : DominoChains.class.getDeclaredClasses()) {
            int modifiers = inside.getModifiers();
            Check.same(inside + " is static", Modifier.isStatic(modifiers), true);
            Check.same(inside + " is public", Modifier.isPublic(modifiers) || Modifier.isProtected(modifiers), false);
        }
        names();
        Check.end();
    }

    private static TreeSet<String> documented() throws Exception {
        String document = Files.readString(Path.of("../shared/DOC.md"));
        TreeSet<String> lines = new TreeSet<>();
        Matcher line = Pattern.compile("(?m)^    (public .*;)$").matcher(document);
        while (line.find()) {
            lines.add(line.group(1).replaceAll("(int|boolean) \\w+([,)])", "$1$2"));
        }
        return lines;
    }

    private static boolean isHidden(Member member) {
        return Modifier.isPrivate(member.getModifiers()) || member.isSynthetic();
    }

    private static TreeSet<String> seen() throws Exception {
        TreeSet<String> lines = new TreeSet<>();
        for (Field field : DominoChains.class.getDeclaredFields()) {
            if (!isHidden(field)) {
                lines.add(Modifier.toString(field.getModifiers()) + " int " + field.getName()
                        + " = " + field.getInt(null) + ";");
            }
        }
        for (Constructor<?> constructor : DominoChains.class.getDeclaredConstructors()) {
            if (!isHidden(constructor)) {
                lines.add(Modifier.toString(constructor.getModifiers()) + " DominoChains()" + ";");
            }
        }
        for (Method method : DominoChains.class.getDeclaredMethods()) {
            if (!isHidden(method)) {
                lines.add(Modifier.toString(method.getModifiers()) + " " + method.getReturnType() + " "
                        + method.getName() + "(" + list(method.getParameterTypes()) + ")"
                        + (method.getExceptionTypes().length > 0 ? " throws " : "")
                        + list(method.getExceptionTypes()) + ";");
            }
        }
        return lines;
    }

    private static String list(Class<?>[] types) {
        List<String> names = new ArrayList<>();
        for (Class<?> type : types) {
            names.add(type.getSimpleName());
        }
        return String.join(", ", names);
    }

    private static void names() {
        TreeSet<String> open = new TreeSet<>();
        List<Class<?>> classes = new ArrayList<>(Arrays.asList(DominoChains.class.getDeclaredClasses()));
        for (Method method : DominoChains.class.getDeclaredMethods()) {
            if (!isHidden(method)) {
                open.add(method.getName());
            }
        }
        classes.add(DominoChains.class);
        for (Class<?> one : classes) {
            for (Method method : one.getDeclaredMethods()) {
                boolean repeated = open.contains(method.getName()) && (one != DominoChains.class || isHidden(method));
                Check.same(method + " bears the name of a public one", repeated, false);
            }
        }
    }
}
