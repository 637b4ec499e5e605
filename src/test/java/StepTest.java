/** Promises 16 and 17. */
final class StepTest {
    public static void main(String[] args) {
        replacesAllAtOnce();
        choosesByTheSeed();
        contextTakesNoChoice();
        refusesLongWords();
        refusesWrongTables();
        undoes();
        undoesOnlyEight();
        forgetsSteps();
        Checks.finish();
    }

    private static void replacesAllAtOnce() {
        Bench b = new Bench().list(0, 'a', "ab").list(0, 'b', "a").word("a");
        int[] lengths = {2, 3, 5, 8, 13, 21, 34, 55};
        for (int length : lengths) {
            Checks.same("fibonacci step", b.x.step(0, 3), length);
        }
        Bench context = new Bench().rule(1, 'a', 'a', "b").rule(1, 'b', 'a', "cc").word("aaba");
        context.x.step(1, 0);
        Checks.same("context is read before the step", context.current(), "abbcc");
    }

    /** The choices are worked out here from the formula, letter by letter. */
    private static void choosesByTheSeed() {
        for (int seed : new int[] {0, 1, -1, 42, 123456789, Integer.MIN_VALUE, Integer.MAX_VALUE}) {
            Bench b = new Bench().list(0, 'a', "b", "c", "").list(0, 'b', "d", "ee").word("abcabcfab");
            StringBuilder due = new StringBuilder();
            int x = seed;
            for (char letter : "abcabcfab".toCharArray()) {
                x = x * 1103515245 + 12345;
                String[] list = letter == 'a' ? new String[] {"b", "c", ""}
                        : letter == 'b' ? new String[] {"d", "ee"} : new String[] {"" + letter};
                due.append(list[(x >>> 16) % list.length]);
            }
            Checks.same("length with seed " + seed, b.x.step(0, seed), due.length());
            Checks.same("word with seed " + seed, b.current(), due.toString());
        }
        Bench b = new Bench().list(0, 'a', "b", "c", "d").word("aaaaaaaa");
        b.x.step(0, 1);
        Checks.same("a word written out", b.current(), "dbbbbcdd");
    }

    private static void contextTakesNoChoice() {
        for (int seed = 0; seed < 20; seed++) {
            Bench b = new Bench().list(0, 'a', "c", "d", "e").rule(0, 'b', 'a', "f").word("baba");
            b.x.step(0, seed);
            Checks.same("rules with seed " + seed, b.current(), "bfbf");
            b.word("baa").x.step(0, seed);
            int x = seed * 1103515245 + 12345;
            x = x * 1103515245 + 12345;
            Checks.same("the letter after a rule, seed " + seed, b.current(), "bf" + "cde".charAt((x >>> 16) % 3));
        }
    }

    private static void refusesLongWords() {
        Bench b = new Bench().list(0, 'a', "aaaa").list(1, 'a', "aaaa", "").word("a".repeat(15));
        Checks.same("sixty letters", b.x.step(0, 0), 60);
        Checks.throwing("more than sixty", Bench.STATE, () -> b.x.step(0, 0));
        Checks.same("the word stays", b.current(), "a".repeat(60));
        Checks.yes("the step that was made can be undone", b.x.undo());
        Checks.same("undone", b.current(), "a".repeat(15));
        Checks.no("the one that threw cannot", b.x.undo());
        Bench one = new Bench().list(0, 'f', "ff").word("a".repeat(59) + "f");
        Checks.throwing("sixty-one", Bench.STATE, () -> one.x.step(0, 0));
        Bench shrinks = new Bench().list(0, 'a', "").word("a".repeat(60));
        Checks.same("a step to the empty word", shrinks.x.step(0, 0), 0);
        Checks.same("a step of the empty word", shrinks.x.step(0, 0), 0);
    }

    private static void refusesWrongTables() {
        ParallelRewriting x = new ParallelRewriting();
        for (int wrong : new int[] {-1, 3, Integer.MIN_VALUE, Integer.MAX_VALUE}) {
            Checks.throwing("step with table " + wrong, Bench.INDEX, () -> x.step(wrong, 0));
        }
        Checks.no("no step was made", x.undo());
    }

    private static void undoes() {
        Bench b = new Bench().list(0, 'a', "ab").word("a");
        Checks.no("nothing to undo", b.x.undo());
        b.x.step(0, 0);
        b.x.step(0, 0);
        Checks.same("two steps", b.current(), "abb");
        Checks.yes("undo one", b.x.undo());
        Checks.same("one step", b.current(), "ab");
        b.x.step(1, 0);
        b.x.step(0, 0);
        Checks.yes("undo after new steps", b.x.undo() && b.x.undo() && b.x.undo());
        Checks.same("no step", b.current(), "a");
        Checks.no("all are undone", b.x.undo());
        Checks.same("still no step", b.current(), "a");
    }

    private static void undoesOnlyEight() {
        Bench b = new Bench().list(0, 'a', "ab").word("a");
        for (int i = 1; i <= 20; i++) {
            b.x.step(0, 0);
        }
        for (int i = 19; i >= 12; i--) {
            Checks.yes("undo to " + i, b.x.undo());
            Checks.same("word " + i, b.current(), "a" + "b".repeat(i));
        }
        Checks.no("a ninth undo", b.x.undo());
        Checks.same("the word stays", b.current(), "a" + "b".repeat(12));
        b.x.step(0, 0);
        Checks.yes("a new step can be undone", b.x.undo());
        Checks.no("but none before", b.x.undo());
        Bench mixed = new Bench().list(0, 'a', "ab").word("a");
        for (int i = 1; i <= 10; i++) {
            mixed.x.step(0, 0);
        }
        Checks.yes("three undone", mixed.x.undo() && mixed.x.undo() && mixed.x.undo());
        mixed.x.step(0, 0);
        for (int i = 7; i >= 2; i--) {
            Checks.yes("undo to " + i + " again", mixed.x.undo());
            Checks.same("word " + i + " again", mixed.current(), "a" + "b".repeat(i));
        }
        Checks.no("the two that gave way do not come back", mixed.x.undo());
    }

    private static void forgetsSteps() {
        Bench b = new Bench().list(0, 'a', "ab").word("a");
        b.x.step(0, 0);
        b.word("ac");
        Checks.no("undo after setWord", b.x.undo());
        Checks.same("the word that was set", b.current(), "ac");
        b.x.step(0, 0);
        b.text("?");
        Checks.throwing("setWord that throws", Bench.ARGUMENT, b.x::setWord);
        b.target("aa");
        b.x.save();
        Checks.yes("none of these forgets", b.x.undo());
        b.x.step(0, 0);
        b.x.restore();
        Checks.no("undo after restore", b.x.undo());
        Checks.same("the word that was restored", b.current(), "abc");
    }
}
