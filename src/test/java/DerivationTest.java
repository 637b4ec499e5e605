/** Promises 27 to 29. */
final class DerivationTest {
    public static void main(String[] args) {
        ways();
        manyWays();
        mostWays();
        sequences();
        longWordsOnTheWay();
        refusals();
        Checks.finish();
    }

    private static void ways() {
        Bench b = new Bench().list(0, 'a', "b", "bb", "").list(0, 'c', "c", "c");
        Checks.same("empty to empty", b.x.ways(0), 1L);
        Checks.same("empty to a letter", b.both("", "b").x.ways(0), 0L);
        Checks.same("a to the empty word", b.both("a", "").x.ways(0), 1L);
        Checks.same("aa to bb", b.both("aa", "bb").x.ways(0), 3L);
        Checks.same("aaa to bbb", b.both("aaa", "bbb").x.ways(0), 7L);
        Checks.same("too long a target", b.both("aa", "bbbbb").x.ways(0), 0L);
        Checks.same("equal productions count each", b.both("cacc", "cbcc").x.ways(0), 8L);
        Checks.same("a deterministic table", b.both("abc", "abc").x.ways(1), 1L);
        Checks.same("no way", b.both("abc", "abd").x.ways(1), 0L);
        b.rule(0, 'c', 'a', "b");
        Checks.same("a rule leaves no choice", b.both("caa", "cbb").x.ways(0), 2L);
        Checks.same("a rule is for the second letter", b.both("aca", "cb").x.ways(0), 2L);
        for (int wrong : new int[] {-1, 3, Integer.MIN_VALUE, Integer.MAX_VALUE}) {
            Checks.throwing("ways of table " + wrong, Bench.INDEX, () -> b.x.ways(wrong));
        }
    }

    private static void manyWays() {
        Bench b = new Bench().list(0, 'a', "", "").list(0, 'b', "", "", "");
        Checks.same("2^60", b.both("a".repeat(60), "").x.ways(0), 1L << 60);
        Checks.same("3^39", b.both("b".repeat(39), "").x.ways(0), 4052555153018976267L);
        Checks.same("2 * 3^39", b.both("a" + "b".repeat(39), "").x.ways(0), 8105110306037952534L);
        Checks.throwing("3^40", Bench.ARITHMETIC, () -> b.both("b".repeat(40), "").x.ways(0));
        Checks.throwing("4 * 3^39, the sum of two that are fine", Bench.ARITHMETIC,
                () -> b.both("aa" + "b".repeat(39), "").x.ways(0));
        Checks.throwing("3^60", Bench.ARITHMETIC, () -> b.both("b".repeat(60), "").x.ways(0));
        Checks.same("3^59 ways that lead nowhere", b.both("b".repeat(59) + "c", "d").x.ways(0), 0L);
        Bench other = new Bench().list(1, 'a', "", "c", "cc");
        Checks.same("the only way to sixty letters", other.both("a".repeat(30), "c".repeat(60)).x.ways(1), 1L);
        Checks.throwing("the middle trinomial coefficient", Bench.ARITHMETIC,
                () -> other.both("a".repeat(50), "c".repeat(50)).x.ways(1));
    }

    /** The letter e stands between four parts, whose ways multiply to 2^63 - 1. */
    private static void mostWays() {
        Bench b = new Bench().list(0, 'a', "", "ffff").list(0, 'b', "", "f", "ff").list(0, 'c', "", "", "f")
                .list(0, 'd', "", "f", "fff").list(0, 'f', "", "ff", "fff");
        String[] words = {"abb" + "c".repeat(9) + "ddf", "b".repeat(7) + "cdfffff", "aabcccccdddffff", "ccdddddffff"};
        String[] targets = {"f".repeat(15), "f".repeat(24), "f".repeat(7), "f".repeat(7)};
        long[] parts = {649657, 92737, 42799, 3577};
        for (int i = 0; i < 4; i++) {
            Checks.same("ways of part " + i, b.both(words[i], targets[i]).x.ways(0), parts[i]);
        }
        b.both(String.join("e", words), String.join("e", targets));
        Checks.same("as many as can be said", b.x.ways(0), Long.MAX_VALUE);
        b.both(String.join("e", words) + "c", String.join("e", targets));
        Checks.throwing("and more", Bench.ARITHMETIC, () -> b.x.ways(0));
    }

    private static void sequences() {
        Bench b = new Bench().list(0, 'a', "b").list(1, 'a', "b").list(2, 'b', "a");
        Checks.same("no step, other words", b.both("a", "b").x.sequenceCount(0), 0);
        Checks.throwing("no first one", Bench.MISSING, () -> b.x.firstSequence(0));
        Checks.same("one step", b.x.sequenceCount(1), 2);
        Checks.same("first of one step", b.x.firstSequence(1), 0);
        Checks.same("two steps: 00 01 10 11 20 21", b.x.sequenceCount(2), 6);
        Checks.same("back to a", b.both("b", "a").x.firstSequence(2), 2);
        Checks.same("there and back: 02 12 22", b.both("a", "a").x.sequenceCount(2), 3);
        Checks.same("first there and back", b.x.firstSequence(2), 2);
        Checks.same("no step, equal words", b.x.sequenceCount(0), 1);
        Checks.same("the empty sequence", b.x.firstSequence(0), 0);
        Checks.same("five steps", b.x.sequenceCount(5), 81);
        Checks.same("five steps to b", b.target("b").x.sequenceCount(5), 162);
        Checks.throwing("no way to c", Bench.MISSING, () -> b.target("c").x.firstSequence(5));
        Checks.same("no way to c", b.x.sequenceCount(5), 0);
        Checks.same("the word stays", b.current(), "a");
        Bench order = new Bench().list(1, 'a', "b").list(2, 'b', "c").rule(0, 'c', 'c', "d").both("aa", "cd");
        Checks.same("1 2 0 in base 3", order.x.firstSequence(3), 15);
        Checks.same("only 1 2 0", order.x.sequenceCount(3), 1);
        Checks.same("the most significant digit is the first", order.x.firstSequence(5), 15);
        Bench last = new Bench().list(2, 'a', "b").list(2, 'b', "c").list(2, 'c', "d").list(2, 'd', "e")
                .list(2, 'e', "f").both("a", "f");
        Checks.same("22222 in base 3", last.x.firstSequence(5), 242);
    }

    private static void longWordsOnTheWay() {
        Bench b = new Bench().list(0, 'a', "bbbb").list(1, 'b', "").list(2, 'a', "");
        Checks.same("sixty on the way: 01 12 20 21 22", b.both("a".repeat(15), "").x.sequenceCount(2), 5);
        Checks.same("the first goes through sixty", b.x.firstSequence(2), 1);
        Checks.same("sixty-four on the way", b.both("a".repeat(16), "").x.sequenceCount(2), 4);
        Checks.same("the first does not go through sixty-four", b.x.firstSequence(2), 5);
    }

    private static void refusals() {
        Bench b = new Bench().list(2, 'f', "f", "f");
        for (int wrong : new int[] {-1, 6, Integer.MIN_VALUE, Integer.MAX_VALUE}) {
            Checks.throwing("count " + wrong, Bench.ARGUMENT, () -> b.x.sequenceCount(wrong));
            Checks.throwing("first " + wrong, Bench.ARGUMENT, () -> b.x.firstSequence(wrong));
        }
        for (int table = 0; table < 3; table++) {
            Bench one = new Bench().list(table, 'a', "a", "a");
            Checks.throwing("choices in table " + table, Bench.STATE, () -> one.x.sequenceCount(1));
            Checks.throwing("choices in table " + table, Bench.STATE, () -> one.x.firstSequence(1));
        }
        for (int steps = 0; steps <= 5; steps++) {
            int n = steps;
            Checks.throwing("count of a table with choices", Bench.STATE, () -> b.x.sequenceCount(n));
            Checks.throwing("first of a table with choices", Bench.STATE, () -> b.x.firstSequence(n));
        }
    }
}
