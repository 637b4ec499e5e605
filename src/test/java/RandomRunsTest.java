import java.lang.reflect.Method;
import java.util.List;
import java.util.Random;

/** All promises: runs of any calls in any order, whose answers are compared with those of a plain model. */
final class RandomRunsTest {
    private static final int RUNS = 1200;
    /** The last round may type a word of 60 letters, and an object is good for 512 calls. */
    private static final int CALLS = 445;
    private static final String[] NAMES = {"skip", "draw", "move", "left", "right", "open", "close"};
    private static final String[] READERS =
        {"setWord", "setTarget", "setCommand", "setProduction", "addProduction", "setContextRule"};

    private final List<Method> methods = Pair.face();
    private final Pair pair = new Pair();
    private final Random random;
    /** Some runs keep their tables plain and deterministic for long, and some have one letter only. */
    private final boolean tame;
    private final int mostLetters;

    private RandomRunsTest(long seed) {
        // seeds that follow one another would give nearly the same first numbers
        random = new Random(seed * 0x9E3779B97F4A7C15L);
        tame = random.nextInt(3) == 0;
        mostLetters = random.nextInt(8) == 0 ? 1 : 6;
    }

    public static void main(String[] args) {
        for (long seed = 0; seed < RUNS; seed++) {
            RandomRunsTest test = new RandomRunsTest(seed);
            test.run();
            if (test.pair.isWrong()) {
                break;
            }
        }
        Checks.finish();
    }

    private void run() {
        while (pair.calls() < CALLS && !pair.isWrong()) {
            if (random.nextInt(3) == 0) {
                typeAndUse();
            }
            Method method = methods.get(random.nextInt(methods.size()));
            if (!isRare(method.getName()) || random.nextInt(40) == 0) {
                pair.call(method, argumentsFor(method));
            }
        }
    }

    private boolean isRare(String name) {
        return tame && (name.equals("addProduction") || name.equals("setContextRule"));
    }

    private void typeAndUse() {
        String reader = READERS[random.nextInt(tame ? 4 : READERS.length)];
        pair.type(randomText(reader));
        Method chosen = Pair.method(reader);
        pair.call(chosen, argumentsFor(chosen));
    }

    private String randomText(String reader) {
        if (reader.equals("setCommand")) {
            return NAMES[random.nextInt(NAMES.length)];
        }
        boolean word = reader.equals("setWord") || reader.equals("setTarget");
        int length = word ? random.nextInt(random.nextInt(5) == 0 ? 61 : 8) : random.nextInt(5);
        int letters = 1 + random.nextInt(mostLetters);
        StringBuilder text = new StringBuilder();
        for (int i = 0; i < length; i++) {
            text.append((char) ('a' + random.nextInt(letters)));
        }
        return text.toString();
    }

    private Object[] argumentsFor(Method method) {
        Object[] arguments = new Object[method.getParameterCount()];
        for (int i = 0; i < arguments.length; i++) {
            arguments[i] = method.getParameterTypes()[i] == boolean.class
                    ? (Object) random.nextBoolean() : (Object) randomNumber(method.getName(), i);
        }
        return arguments;
    }

    private int randomNumber(String name, int position) {
        if (random.nextInt(60) == 0) {
            return random.nextBoolean() ? random.nextInt() : random.nextInt(10) - 4;
        }
        switch (name) {
            case "appendCharacter":
                return random.nextInt(10) == 0 ? 28 + random.nextInt(102) : 'a' + random.nextInt(6);
            case "wordLetter":
                return random.nextInt(62) - 1;
            case "setCommand":
            case "sequenceCount":
            case "firstSequence":
                return random.nextInt(6);
            case "extent":
                return random.nextInt(4);
            case "keepPoints":
                return random.nextInt(2);
            case "remainder":
                return position == 0 ? random.nextInt(2) : random.nextInt(24);
            default:
                return position == 0 ? random.nextInt(3) : laterNumber(name, position);
        }
    }

    private int laterNumber(String name, int position) {
        switch (name) {
            case "step":
                return random.nextInt();
            case "lengthAfter":
            case "countAfter":
                return position == 2 ? random.nextInt(6)
                        : random.nextInt(random.nextInt(3) == 0 ? 1003 : 70) - 1;
            case "stepsToAdult":
                return random.nextInt(52);
            case "recurrenceCoefficient":
                return random.nextInt(8);
            default:
                return random.nextInt(6);
        }
    }
}
