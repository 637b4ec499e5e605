/** Promises 24 to 26. */
final class AdultTest {
    public static void main(String[] args) {
        adultForAllChoices();
        adultWithContext();
        stepsToAdult();
        stepsToAdultRefusals();
        counts();
        Checks.finish();
    }

    private static void adultForAllChoices() {
        Bench b = new Bench();
        Checks.yes("the empty word", b.x.isAdult(0));
        Checks.yes("a new table", b.word("abcdef".repeat(10)).x.isAdult(2));
        b.list(0, 'a', "ab").list(0, 'b', "").list(0, 'c', "c", "c").list(0, 'd', "d", "e");
        Checks.yes("ab gives ab", b.word("ab").x.isAdult(0));
        Checks.no("ba gives ab", b.word("ba").x.isAdult(0));
        Checks.yes("equal productions", b.word("cabc").x.isAdult(0));
        Checks.no("one choice keeps, another does not", b.word("dc").x.isAdult(0));
        Checks.no("longer", b.word("a").x.isAdult(0));
        Checks.no("shorter", b.word("abb").x.isAdult(0));
        Checks.no("too long to hold", b.word("a".repeat(60)).x.isAdult(0));
        b.list(1, 'c', "c", "cc").list(1, 'd', "d", "");
        Checks.no("a production begins as the letter", b.word("c").x.isAdult(1));
        Checks.no("a production is shorter", b.word("d").x.isAdult(1));
        b.list(2, 'a', "fe", "ff").list(2, 'a', "a", "a");
        Checks.yes("nothing is left of a longer production", b.word("a").x.isAdult(2));
        b.list(1, 'e', "e", "e", "f");
        Checks.no("the third production counts", b.word("e").x.isAdult(1));
        for (int wrong : new int[] {-1, 3, Integer.MIN_VALUE, Integer.MAX_VALUE}) {
            Checks.throwing("isAdult " + wrong, Bench.INDEX, () -> b.x.isAdult(wrong));
        }
    }

    private static void adultWithContext() {
        Bench b = new Bench().list(0, 'b', "c", "d").rule(0, 'a', 'b', "b");
        Checks.yes("a rule takes the choice away", b.word("ab").x.isAdult(0));
        Checks.no("no rule for the first letter", b.word("ba").x.isAdult(0));
        Checks.no("no rule for the second b", b.word("abb").x.isAdult(0));
        Bench swap = new Bench().rule(0, 'a', 'a', "");
        Checks.no("a rule that erases", swap.word("aa").x.isAdult(0));
        Checks.yes("but not alone", swap.word("aba").x.isAdult(0));
    }

    private static void stepsToAdult() {
        Bench b = new Bench().list(0, 'a', "b").list(0, 'b', "cd").list(0, 'd', "");
        Checks.same("adult at once", b.word("c").x.stepsToAdult(0, 0), 0);
        Checks.same("the empty word", b.word("").x.stepsToAdult(0, 0), 0);
        Checks.same("three steps", b.word("a").x.stepsToAdult(0, 50), 3);
        Checks.same("three steps, just in time", b.x.stepsToAdult(0, 3), 3);
        Checks.throwing("three steps, too late", Bench.MISSING, () -> b.x.stepsToAdult(0, 2));
        Checks.throwing("none at all", Bench.MISSING, () -> b.x.stepsToAdult(0, 0));
        Checks.same("the word stays", b.current(), "a");
        Checks.no("no step to undo", b.x.undo());
        Bench context = new Bench().rule(0, 'a', 'b', "").word("a" + "b".repeat(50));
        Checks.same("fifty steps", context.x.stepsToAdult(0, 50), 50);
        Checks.throwing("fifty-one steps", Bench.MISSING,
                () -> context.word("a" + "b".repeat(51)).x.stepsToAdult(0, 50));
        Bench blink = new Bench().list(0, 'a', "b").list(0, 'b', "a").word("ab");
        Checks.throwing("never", Bench.MISSING, () -> blink.x.stepsToAdult(0, 50));
        Bench wide = new Bench().list(0, 'a', "bbbb").list(0, 'b', "").word("a".repeat(15));
        Checks.same("sixty letters on the way", wide.x.stepsToAdult(0, 50), 2);
        Checks.throwing("sixty-four letters on the way", Bench.MISSING,
                () -> wide.word("a".repeat(16)).x.stepsToAdult(0, 50));
    }

    private static void stepsToAdultRefusals() {
        Bench b = new Bench().list(0, 'f', "f", "f");
        for (int wrong : new int[] {-1, 3, Integer.MIN_VALUE, Integer.MAX_VALUE}) {
            Checks.throwing("table " + wrong, Bench.INDEX, () -> b.x.stepsToAdult(wrong, -1));
        }
        for (int wrong : new int[] {-1, 51, Integer.MIN_VALUE, Integer.MAX_VALUE}) {
            Checks.throwing("limit " + wrong, Bench.ARGUMENT, () -> b.x.stepsToAdult(0, wrong));
        }
        Checks.throwing("not deterministic", Bench.STATE, () -> b.x.stepsToAdult(0, 5));
    }

    private static void counts() {
        Bench b = new Bench().list(1, 'a', "ab").list(1, 'b', "").list(1, 'c', "d", "c").list(1, 'e', "e", "e");
        int[] all = {1, 6, 36, 216, 1296};
        // the words of ab, d, e and f
        int[] some = {1, 3, 10, 33, 109};
        for (int length = 0; length <= 4; length++) {
            Checks.same("all words of " + length, b.x.adultWords(0, length), all[length]);
            Checks.same("words of ab, d, e, f of " + length, b.x.adultWords(1, length), some[length]);
        }
        Bench context = new Bench().rule(0, 'a', 'a', "b").list(0, 'b', "c", "b").rule(0, 'a', 'b', "b");
        Checks.same("words without b, or with b behind a, and without aa: length 1", context.x.adultWords(0, 1), 5);
        Checks.same("of length 2: 36 - 5 times b behind another or first - aa", context.x.adultWords(0, 2), 25);
        for (int wrong : new int[] {-1, 3, Integer.MIN_VALUE, Integer.MAX_VALUE}) {
            Checks.throwing("table " + wrong, Bench.INDEX, () -> b.x.adultWords(wrong, -1));
        }
        for (int wrong : new int[] {-1, 5, Integer.MIN_VALUE, Integer.MAX_VALUE}) {
            Checks.throwing("length " + wrong, Bench.ARGUMENT, () -> b.x.adultWords(0, wrong));
        }
        b.list(2, 'a', "aa").word("ab");
        Checks.throwing("a walk before the next count", Bench.MISSING, () -> b.x.stepsToAdult(2, 2));
        Checks.same("all words of 2 without a", b.x.adultWords(2, 2), 25);
        b.word("cab").x.adultWords(1, 4);
        Checks.same("the word stays", b.current(), "cab");
    }
}
