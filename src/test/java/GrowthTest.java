/** Promises 18 to 21. */
final class GrowthTest {
    public static void main(String[] args) {
        lengths();
        counts();
        overflow();
        kinds();
        degrees();
        refusals();
        Checks.finish();
    }

    private static void lengths() {
        Bench b = new Bench().list(0, 'a', "ab").list(0, 'b', "a").word("a");
        long[] fibonacci = {1, 2, 3, 5, 8, 13, 21};
        for (int n = 0; n < fibonacci.length; n++) {
            Checks.same("fibonacci " + n, b.x.lengthAfter(0, n), fibonacci[n]);
        }
        Checks.same("beyond sixty letters", b.x.lengthAfter(0, 80), 61305790721611591L);
        Checks.same("a table of no change", b.x.lengthAfter(1, 1000), 1L);
        Checks.same("the word stays", b.current(), "a");
        Checks.same("the empty word", b.word("").x.lengthAfter(0, 1000), 0L);
        Checks.same("a linear growth", new Bench().list(2, 'f', "ef").word("ff").x.lengthAfter(2, 1000), 2002L);
    }

    private static void counts() {
        Bench b = new Bench().list(0, 'a', "abbc").list(0, 'b', "c").list(0, 'c', "").word("aab");
        Checks.same("count at first", b.x.countAfter(0, 0, 0), 2L);
        Checks.same("a after 3", b.x.countAfter(0, 3, 0), 2L);
        Checks.same("b after 3", b.x.countAfter(0, 3, 1), 4L);
        Checks.same("c after 1", b.x.countAfter(0, 1, 2), 3L);
        Checks.same("c after 3", b.x.countAfter(0, 3, 2), 6L);
        Checks.same("f after 3", b.x.countAfter(0, 3, 5), 0L);
    }

    private static void overflow() {
        Bench b = new Bench().list(0, 'a', "aa").word("a");
        Checks.same("2^62 letters", b.x.lengthAfter(0, 62), 1L << 62);
        Checks.throwing("2^63 letters", Bench.ARITHMETIC, () -> b.x.lengthAfter(0, 63));
        Checks.throwing("a count of another letter", Bench.ARITHMETIC, () -> b.x.countAfter(0, 63, 3));
        Bench odd = new Bench().list(0, 'a', "aab").word("a");
        Checks.same("2^63 - 1 letters", odd.x.lengthAfter(0, 62), Long.MAX_VALUE);
        Checks.same("of them b", odd.x.countAfter(0, 62, 1), (1L << 62) - 1);
        Checks.throwing("one step more", Bench.ARITHMETIC, () -> odd.x.lengthAfter(0, 63));
        Bench halves = new Bench().list(0, 'a', "aa").list(0, 'b', "bb").word("ab");
        Checks.throwing("2^62 letters twice", Bench.ARITHMETIC, () -> halves.x.countAfter(0, 62, 0));
        // a gives four letters of which two die at once, so a long word is followed by a shorter one
        Bench wave = new Bench().list(0, 'a', "bbcc").list(0, 'b', "a").list(0, 'c', "").word("a");
        Checks.same("before the wave", wave.x.lengthAfter(0, 122), 1L << 61);
        Checks.throwing("in the wave", Bench.ARITHMETIC, () -> wave.x.lengthAfter(0, 123));
        Checks.throwing("behind the wave", Bench.ARITHMETIC, () -> wave.x.lengthAfter(0, 124));
        Checks.throwing("a count behind the wave", Bench.ARITHMETIC, () -> wave.x.countAfter(0, 124, 2));
    }

    private static void kinds() {
        Bench b = new Bench()
                .list(0, 'a', "bbbb").list(0, 'b', "cccc").list(0, 'c', "")
                .list(0, 'd', "da").list(0, 'e', "ed").list(0, 'f', "fef");
        Checks.same("the empty word", b.word("").x.growthKind(0), 0);
        Checks.same("a word that dies", b.word("aabc").x.growthKind(0), 0);
        Checks.same("bounded", b.word("dda").x.growthKind(0), 1);
        Checks.same("polynomial", b.word("ea").x.growthKind(0), 2);
        Checks.same("exponential", b.word("af").x.growthKind(0), 3);
        Bench ring = new Bench().list(1, 'a', "b").list(1, 'b', "ca").list(1, 'c', "");
        Checks.same("a cycle of two that sheds", ring.word("a").x.growthKind(1), 1);
        Bench pair = new Bench().list(1, 'a', "bb").list(1, 'b', "a");
        Checks.same("a cycle of two that doubles", pair.word("b").x.growthKind(1), 3);
        Bench apart = new Bench().list(1, 'a', "aa").list(1, 'b', "");
        Checks.same("doubling that is not reached", apart.word("bcd").x.growthKind(1), 1);
        Bench two = new Bench().list(1, 'a', "bc").list(1, 'b', "a").list(1, 'c', "a");
        Checks.same("two cycles through a letter", two.word("d").x.growthKind(1), 1);
        Checks.same("two cycles through a letter, reached", two.word("dc").x.growthKind(1), 3);
    }

    private static void degrees() {
        Bench b = new Bench().list(0, 'b', "ba").list(0, 'c', "cb").list(0, 'd', "dc").list(0, 'e', "ed")
                .list(0, 'f', "fe");
        String letters = "abcdef";
        for (int degree = 0; degree < 6; degree++) {
            b.word("a" + letters.charAt(degree));
            Checks.same("degree " + degree, b.x.growthDegree(0), degree);
            Checks.same("kind for degree " + degree, b.x.growthKind(0), degree == 0 ? 1 : 2);
        }
        b.list(0, 'a', "");
        Checks.same("degree of a word that dies", b.word("aaa").x.growthDegree(0), 0);
        Checks.same("degree of the empty word", b.word("").x.growthDegree(0), 0);
        Checks.same("one cycle less", b.word("f").x.growthDegree(0), 4);
        Bench side = new Bench().list(0, 'a', "b").list(0, 'b', "ac").list(0, 'c', "d").list(0, 'd', "e")
                .list(0, 'e', "ef").list(0, 'f', "");
        Checks.same("cycles with letters between", side.word("a").x.growthDegree(0), 1);
        Bench upward = new Bench().list(0, 'a', "c").list(0, 'c', "ab").list(0, 'b', "e").list(0, 'e', "bd");
        Checks.same("cycles of two, towards later letters", upward.word("c").x.growthDegree(0), 2);
        Bench through = new Bench().list(0, 'f', "a").list(0, 'a', "e").list(0, 'e', "fd");
        Checks.same("a cycle through a", through.word("e").x.growthDegree(0), 1);
        Bench exponential = new Bench().list(0, 'a', "ba").list(0, 'b', "bb").word("a");
        Checks.throwing("no degree", Bench.ARITHMETIC, () -> exponential.x.growthDegree(0));
    }

    private static void refusals() {
        Bench b = new Bench().list(0, 'f', "a", "a").rule(1, 'a', 'a', "a").word("a");
        for (int table : new int[] {-1, 3, Integer.MIN_VALUE, Integer.MAX_VALUE}) {
            Checks.throwing("lengthAfter table", Bench.INDEX, () -> b.x.lengthAfter(table, -1));
            Checks.throwing("countAfter table", Bench.INDEX, () -> b.x.countAfter(table, -1, 0));
            Checks.throwing("growthKind table", Bench.INDEX, () -> b.x.growthKind(table));
            Checks.throwing("growthDegree table", Bench.INDEX, () -> b.x.growthDegree(table));
        }
        for (int steps : new int[] {-1, 1001, Integer.MIN_VALUE, Integer.MAX_VALUE}) {
            Checks.throwing("lengthAfter steps", Bench.ARGUMENT, () -> b.x.lengthAfter(0, steps));
            Checks.throwing("countAfter steps", Bench.ARGUMENT, () -> b.x.countAfter(1, steps, 0));
        }
        for (int letter : new int[] {-1, 6, Integer.MIN_VALUE, Integer.MAX_VALUE}) {
            Checks.throwing("countAfter letter", Bench.INDEX, () -> b.x.countAfter(0, -1, letter));
        }
        for (int table = 0; table < 2; table++) {
            int refused = table;
            Checks.throwing("lengthAfter " + table, Bench.STATE, () -> b.x.lengthAfter(refused, 0));
            Checks.throwing("countAfter " + table, Bench.STATE, () -> b.x.countAfter(refused, 0, 0));
            Checks.throwing("growthKind " + table, Bench.STATE, () -> b.x.growthKind(refused));
            Checks.throwing("growthDegree " + table, Bench.STATE, () -> b.x.growthDegree(refused));
        }
        b.list(1, 'b', "bb").word("b");
        Checks.throwing("state before arithmetic", Bench.STATE, () -> b.x.lengthAfter(1, 1000));
        Checks.throwing("state before the degree", Bench.STATE, () -> b.x.growthDegree(1));
    }
}
