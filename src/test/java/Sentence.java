import java.util.ArrayList;
import java.util.HashSet;
import java.util.List;
import java.util.Map;
import java.util.Set;

/** A sentence of the document that names a boundary, and the checks that show it. */
final class Sentence {
    private static final Set<String> SHOWN = new HashSet<>();

    private final String name;

    private Sentence(String name) {
        this.name = name;
    }

    /** The sentence as it stands in the document under the promise; 0 for one outside the promises. */
    static Sentence of(int promise, String words) {
        String name = nameOf(promise, words);
        Checks.yes("the document has " + name, Document.has(promise, words));
        Checks.yes(name + " has one test", SHOWN.add(name));
        return new Sentence(name);
    }

    private static String nameOf(int promise, String words) {
        return (promise == 0 ? "outside the promises" : "promise " + promise) + ", \"" + words + "\"";
    }

    /** The document's sentences that no test has shown. */
    static List<String> notShown() {
        List<String> missing = new ArrayList<>();
        for (Map.Entry<Integer, Set<String>> promise : Document.sentences().entrySet()) {
            for (String words : promise.getValue()) {
                if (!SHOWN.contains(nameOf(promise.getKey(), words))) {
                    missing.add(promise.getKey() + " " + words);
                }
            }
        }
        return missing;
    }

    static int shown() {
        return SHOWN.size();
    }

    Sentence same(String what, Object got, Object want) {
        Checks.same(name + ": " + what, got, want);
        return this;
    }

    Sentence yes(String what, boolean got) {
        return same(what, got, true);
    }

    Sentence no(String what, boolean got) {
        return same(what, got, false);
    }

    /** The call is refused, and nothing that later calls show has changed. */
    Sentence refused(String what, Scene scene, Class<? extends Exception> refusal, Call call) {
        Bench b = scene.make();
        same(what, Checks.answerOf(() -> call.on(b.x)), refusal.getSimpleName());
        List<String> before = scene.seen();
        List<String> after = scene.seenAfter(call);
        for (int look = 0; look < before.size(); look++) {
            same(what + ", then a look", after.get(look), before.get(look));
        }
        return this;
    }

    /** Numbers that are just too small or too large, and the smallest and largest of all. */
    Sentence refusedOutside(int low, int high, Scene scene, Class<? extends Exception> refusal, Call.WithNumber call) {
        for (int number : new int[] {low - 1, high + 1, Integer.MIN_VALUE, Integer.MAX_VALUE}) {
            refused("the number " + number, scene, refusal, x -> call.on(x, number));
        }
        return this;
    }

    /** Both ends of a range are answered, and the numbers just beyond them are not. */
    Sentence takes(int low, int high, Scene scene, Class<? extends Exception> refusal, Call.WithNumber call) {
        for (int number : new int[] {low, low + 1, high - 1, high}) {
            Bench b = scene.make();
            Object answer = Checks.answerOf(() -> call.on(b.x, number));
            no("the number " + number + ", which is in the range, throws", answer.toString().endsWith("Exception"));
        }
        for (int number : new int[] {low - 1, high + 1}) {
            Bench b = scene.make();
            same("the number " + number, Checks.answerOf(() -> call.on(b.x, number)), refusal.getSimpleName());
        }
        return this;
    }
}
