import java.util.ArrayList;
import java.util.List;
import java.util.function.Consumer;
import java.util.function.Function;
import java.util.function.Supplier;

/**
 * A way to make the same workbench again and again, and all that later calls can show of it. To look at a
 * workbench changes it, and it is good for 512 calls only, so each look takes a new one.
 */
final class Scene {
    /** With these seeds each of six letters gets each of its productions, whether it has two or three. */
    private static final int[] SEEDS = {7, 8, 115};

    private static final List<Function<Bench, Object>> LOOKS = looks();

    private final Supplier<Bench> maker;
    private List<String> seen;

    private Scene(Supplier<Bench> maker) {
        this.maker = maker;
    }

    static Scene fresh() {
        return new Scene(Bench::new);
    }

    /** A workbench with something in each part of its state, and something else in each part that is saved. */
    static Scene busy() {
        return new Scene(Scene::makeBusy);
    }

    Scene with(Consumer<Bench> more) {
        return new Scene(() -> {
            Bench b = make();
            more.accept(b);
            return b;
        });
    }

    Bench make() {
        return maker.get();
    }

    List<String> seen() {
        if (seen == null) {
            seen = seenAfter(x -> 0);
        }
        return seen;
    }

    List<String> seenAfter(Call call) {
        List<String> all = new ArrayList<>();
        for (Function<Bench, Object> look : LOOKS) {
            Bench b = make();
            Checks.answerOf(() -> call.on(b.x));
            all.add(look.apply(b).toString());
        }
        return all;
    }

    private static Bench makeBusy() {
        Bench b = new Bench().list(0, 'a', "b", "cc").rule(0, 'b', 'c', "d").list(1, 'b', "ba");
        b.command('a', "draw").command('b', "left").both("abca", "ba");
        b.x.save();
        b.list(0, 'a', "ab", "", "c").list(0, 'b', "b").rule(0, 'a', 'b', "ef");
        b.list(2, 'c', "dc").rule(2, 'd', 'd', "").pen();
        b.word("aeacaf").x.keepPoints(0, false);
        b.word("ccab").x.keepPoints(1, true);
        b.both("abc", "abacd");
        b.x.step(1, 0);
        b.x.step(2, 1);
        b.x.step(0, 5);
        return b.text("ace");
    }

    private static List<Function<Bench, Object>> looks() {
        List<Function<Bench, Object>> saved = new ArrayList<>();
        saved.add(Scene::targetOf);
        saved.add(b -> wordAfter(b, 0));
        for (int table = 0; table < 3; table++) {
            int number = table;
            saved.add(b -> listsOf(b, number));
            saved.add(b -> rulesOf(b, number));
        }
        for (char letter = 'a'; letter <= 'f'; letter++) {
            char one = letter;
            saved.add(b -> commandOf(b, one));
        }
        List<Function<Bench, Object>> all = new ArrayList<>(saved);
        saved.forEach(look -> all.add(b -> Checks.answerOf(() -> restored(b)) + " " + look.apply(b)));
        all.add(b -> Checks.answerOf(() -> restored(b)) + " " + wordAfter(b, 1));
        for (int undos = 1; undos <= 9; undos++) {
            int times = undos;
            all.add(b -> wordAfter(b, times));
        }
        all.add(Scene::textOf);
        all.add(b -> rowOf(b, 0));
        all.add(b -> rowOf(b, 1));
        return all;
    }

    private static Object restored(Bench b) {
        b.x.restore();
        return "restored";
    }

    /** A text that is no word shows no more than its length and that it is none. */
    private static Object textOf(Bench b) {
        Object command = Checks.answerOf(() -> {
            b.x.setCommand(0);
            return "command";
        });
        Object word = Checks.answerOf(b.x::setWord);
        return "text " + command + " " + word + " " + b.current() + " "
            + Checks.answerOf(() -> b.x.appendCharacter('a')) + " " + b.x.clearText();
    }

    private static Object wordAfter(Bench b, int undos) {
        StringBuilder undone = new StringBuilder("word");
        for (int i = 0; i < undos; i++) {
            undone.append(' ').append(b.x.undo());
        }
        return undone.append(' ').append(b.current()).append(' ').append(b.x.isTarget());
    }

    /** The target is compared with each word that was ever the target of this workbench. */
    private static Object targetOf(Bench b) {
        StringBuilder equal = new StringBuilder("target");
        for (String target : new ArrayList<>(b.targets)) {
            equal.append(' ').append(b.word(target).x.isTarget());
        }
        return equal.append(' ').append(b.word("").x.isTarget());
    }

    private static Object listsOf(Bench b, int table) {
        StringBuilder lists = new StringBuilder("lists " + b.x.isDeterministic(table) + b.x.isPlain(table));
        for (int letter = 0; letter < 6; letter++) {
            lists.append(' ').append(b.x.productionCount(table, letter));
        }
        lists.append(' ').append(removedRules(b, table));
        b.word("abcdef");
        for (int seed : SEEDS) {
            lists.append(' ').append(b.x.step(table, seed)).append(b.current());
            b.x.undo();
        }
        return lists;
    }

    private static String removedRules(Bench b, int table) {
        StringBuilder removed = new StringBuilder();
        for (int pair = 0; pair < 36; pair++) {
            removed.append(b.x.removeContextRule(table, pair / 6, pair % 6) ? '1' : '0');
        }
        return removed.toString();
    }

    /** Letters without a rule vanish here, so that a word with all pairs of letters shows the rules alone. */
    private static Object rulesOf(Bench b, int table) {
        for (char letter = 'a'; letter <= 'f'; letter++) {
            b.list(table, letter, "");
        }
        b.word(allPairs());
        b.x.step(table, 0);
        return "rules " + b.current() + " " + removedRules(b, table);
    }

    static String allPairs() {
        StringBuilder word = new StringBuilder("a");
        for (char low = 'a'; low <= 'f'; low++) {
            word.append(low);
            for (char high = (char) (low + 1); high <= 'f'; high++) {
                word.append(high).append(low);
            }
            word.append(low == 'f' ? "a" : String.valueOf((char) (low + 1)));
        }
        return word.toString();
    }

    /** Another letter draws behind the letter, so that a turn can be seen. */
    private static Object commandOf(Bench b, char letter) {
        char other = letter == 'a' ? 'b' : 'a';
        b.command(other, "draw").word("" + letter + other);
        StringBuilder figure = new StringBuilder("command ").append(Checks.answerOf(b.x::segmentCount));
        figure.append(' ').append(Checks.answerOf(b.x::openDepth));
        for (int side = 0; side < 4; side++) {
            int one = side;
            figure.append(' ').append(Checks.answerOf(() -> b.x.extent(one)));
        }
        return figure;
    }

    private static Object rowOf(Bench b, int row) {
        StringBuilder remainders = new StringBuilder("row");
        for (int dividend = -1; dividend <= 14; dividend++) {
            for (int divisor = -1; divisor <= 14; divisor++) {
                int i = dividend;
                int j = divisor;
                remainders.append(' ').append(Checks.answerOf(() -> b.x.remainder(row, i, j)));
            }
        }
        return remainders;
    }
}
