import java.lang.reflect.Constructor;
import java.lang.reflect.Field;
import java.lang.reflect.Method;
import java.lang.reflect.Modifier;
import java.nio.file.Files;
import java.nio.file.Path;
import java.util.Arrays;
import java.util.TreeSet;
import java.util.regex.Matcher;
import java.util.regex.Pattern;
import java.util.stream.Collectors;

/** The public face: that of the document, and no other member that can be seen. */
final class FaceTest {
    private static final Pattern METHOD =
        Pattern.compile("public (\\w+) (\\w+)\\(([^)]*)\\)(?: throws ([\\w, ]+))?;");

    public static void main(String[] args) throws Exception {
        TreeSet<String> want = new TreeSet<>();
        String document = Files.readString(Path.of("../shared/DOC.md"));
        Matcher matcher = METHOD.matcher(document.substring(0, document.indexOf("## Description")));
        while (matcher.find()) {
            String parameters = matcher.group(3).replaceAll("(\\w+) \\w+", "$1");
            String thrown = matcher.group(4) == null ? "" : matcher.group(4);
            want.add(matcher.group(1) + " " + matcher.group(2) + "(" + parameters + ") " + thrown);
        }
        Checks.same("methods in the document", want.size(), 37);
        Checks.same("methods", visibleMethods(), want);
        Class<?> type = ParallelRewriting.class;
        Checks.same("class", Modifier.toString(type.getModifiers()), "public final");
        Constructor<?>[] constructors = type.getDeclaredConstructors();
        Checks.same("constructors", constructors.length, 1);
        Checks.same("constructor", constructors[0].toString(), "public ParallelRewriting()");
        for (Field field : type.getDeclaredFields()) {
            Checks.yes(field + " is private", Modifier.isPrivate(field.getModifiers()));
        }
        for (Class<?> inside : type.getDeclaredClasses()) {
            Checks.yes(inside + " is static", Modifier.isStatic(inside.getModifiers()));
            Checks.no(inside + " is public", Modifier.isPublic(inside.getModifiers()));
        }
        Checks.finish();
    }

    private static TreeSet<String> visibleMethods() {
        TreeSet<String> got = new TreeSet<>();
        for (Method method : ParallelRewriting.class.getDeclaredMethods()) {
            if (!Modifier.isPrivate(method.getModifiers())) {
                got.add(method.getReturnType() + " " + method.getName() + "(" + names(method.getParameterTypes())
                        + ") " + names(method.getExceptionTypes()));
            }
        }
        return got;
    }

    private static String names(Class<?>[] types) {
        return Arrays.stream(types).map(Class::getSimpleName).collect(Collectors.joining(", "));
    }
}
