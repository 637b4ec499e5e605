import java.lang.reflect.InvocationTargetException;
import java.lang.reflect.Method;
import java.lang.reflect.Modifier;
import java.util.ArrayList;
import java.util.Arrays;
import java.util.Comparator;
import java.util.List;
import java.util.Map;
import java.util.TreeMap;
import java.util.TreeSet;

/** Makes each call on the class and on the plain model, and compares the answers. */
final class Pair {
    /** For each method the answers that came, or what it threw: for tests that want to have seen them. */
    static final Map<String, TreeSet<String>> SEEN = new TreeMap<>();

    private final ParallelRewriting real = new ParallelRewriting();
    private final NaiveModel model = new NaiveModel();
    private final List<String> told = new ArrayList<>();
    private boolean wrong = false;

    static List<Method> face() {
        List<Method> methods = new ArrayList<>(Arrays.asList(ParallelRewriting.class.getDeclaredMethods()));
        methods.removeIf(method -> !Modifier.isPublic(method.getModifiers()));
        methods.sort(Comparator.comparing(Method::getName));
        return methods;
    }

    static Method method(String name) {
        return face().stream().filter(method -> method.getName().equals(name)).findFirst().orElseThrow();
    }

    boolean isWrong() {
        return wrong;
    }

    int calls() {
        return told.size();
    }

    void type(String text) {
        call(method("clearText"));
        Method append = method("appendCharacter");
        for (char character : text.toCharArray()) {
            call(append, (int) character);
        }
    }

    Object call(String name, Object... arguments) {
        return call(method(name), arguments);
    }

    /** The answer that is due; after a wrong answer nothing more is compared. */
    Object call(Method method, Object... arguments) {
        Object got = answer(method, real, arguments);
        Object want = answer(sameInModel(method), model, arguments);
        told.add(method.getName() + Arrays.toString(arguments) + " = " + want);
        SEEN.computeIfAbsent(method.getName(), name -> new TreeSet<>()).add(want.toString());
        if (!wrong && !got.equals(want)) {
            wrong = true;
            told.forEach(System.out::println);
            Checks.same("the last of these calls", got, want);
        }
        return want;
    }

    private static Method sameInModel(Method method) {
        try {
            return NaiveModel.class.getMethod(method.getName(), method.getParameterTypes());
        } catch (NoSuchMethodException missing) {
            throw new IllegalStateException(missing);
        }
    }

    private static Object answer(Method method, Object of, Object[] arguments) {
        try {
            Object answer = method.invoke(of, arguments);
            return answer == null ? "nothing" : answer;
        } catch (InvocationTargetException thrown) {
            return thrown.getCause().getClass().getName();
        } catch (IllegalAccessException hidden) {
            throw new IllegalStateException(hidden);
        }
    }
}
