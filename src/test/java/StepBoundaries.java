/** Boundaries of promises 16 and 17 and of what the description says of steps. */
final class StepBoundaries {
    private static final Scene BUSY = Scene.busy();
    private static final int[] SEEDS =
        {0, 1, -1, 2, 12345, -12345, 1 << 16, 1 << 30, 1 << 31, Integer.MAX_VALUE, Integer.MIN_VALUE + 1};

    private StepBoundaries() {
    }

    static void run() {
        contextAtTheEnds();
        oneWord();
        arguments();
        choices();
        tooLong();
        undo();
        undoEight();
        forget();
        undoAnswers();
    }

    private static void contextAtTheEnds() {
        Sentence before = Sentence.of(0, "If the letter directly before a letter in the word, as it is before the step, and the "
                + "letter itself are the left letter and the replaced letter of a context rule of the table, the letter is replaced by "
                + "the production of this rule.");
        Bench b = new Bench().rule(0, 'a', 'b', "dddd").rule(0, 'b', 'b', "").list(0, 'a', "b");
        String[][] steps = {
            {"", ""}, {"b", "b"}, {"a", "b"}, {"ab", "bdddd"}, {"ba", "bb"}, {"bb", "b"}, {"abb", "bdddd"},
            {"acb", "bcb"}, {"aab", "bbdddd"}, {"bab", "bbdddd"}, {"bbbbbb", "b"}, {"cab".repeat(10), "cbdddd".repeat(10)}};
        for (String[] step : steps) {
            b.word(step[0]).x.step(0, 0);
            before.same("a step of " + step[0], b.current(), step[1]);
        }
        Sentence.of(0, "Otherwise it is replaced by a production of its list, which is chosen for each such letter "
                + "independently of the others.")
            .same("60 letters, each with two ways", new Bench().list(0, 'a', "a", "a").both("a".repeat(60), "a".repeat(60))
                .x.ways(0), 1L << 60);
        Sentence.of(0, "The choices of a step are the numbers of the chosen productions, for all letters that need a choice.")
            .same("no letter", new Bench().x.ways(0), 1L)
            .same("no letter that needs a choice but the first",
                new Bench().list(0, 'a', "a", "b", "c").rule(0, 'a', 'a', "").both("a".repeat(60), "b").x.ways(0), 1L);
    }

    private static void oneWord() {
        Sentence one = Sentence.of(0, "A step with a deterministic table gives exactly one word.");
        for (int seed : SEEDS) {
            Bench b = new Bench().list(0, 'a', "bc").rule(0, 'b', 'a', "").both("aba", "bcb");
            one.same("ways to the word", b.x.ways(0), 1L);
            b.x.step(0, seed);
            one.yes("the word with seed " + seed, b.x.isTarget());
        }
        Bench empty = new Bench();
        one.same("the empty word", empty.x.step(0, 5), 0);
        Sentence.of(0, "A step with a table replaces all letters of a word at the same time.")
            .same("60 letters", new Bench().list(0, 'a', "b").list(0, 'b', "a").word("ab".repeat(30)).x.step(0, 0), 60);
    }

    private static void arguments() {
        Scene scene = BUSY.with(b -> b.word("abc"));
        Sentence.of(16, "- `table`: the table, 0 to 2").takes(0, 2, scene, Bench.INDEX, (x, table) -> x.step(table, 0));
        Sentence.of(16, "Throws `IndexOutOfBoundsException` if there is no such table")
            .refusedOutside(0, 2, BUSY, Bench.INDEX, (x, table) -> x.step(table, 0))
            .refusedOutside(0, 2, Scene.fresh(), Bench.INDEX, (x, table) -> x.step(table, -1));
        Sentence any = Sentence.of(16, "- `seed`: the seed, any int");
        for (int seed : SEEDS) {
            Bench b = new Bench().list(0, 'a', "a", "b", "c").word("aaaaaa");
            any.same("the length with seed " + seed, b.x.step(0, seed), 6);
            any.same("the word with seed " + seed, b.current(), due("aaaaaa", seed));
        }
        Sentence.of(16, "Returns the new length of the current word.")
            .same("the empty word stays", new Bench().x.step(0, 0), 0)
            .same("60 to 0", new Bench().list(0, 'a', "").word("a".repeat(60)).x.step(0, 0), 0)
            .same("15 to 60", new Bench().list(0, 'a', "abcd").word("a".repeat(15)).x.step(0, 0), 60);
    }

    /** The letter a has the productions a, b and c, b has d and e, and the others are replaced by themselves. */
    private static String due(String word, int seed) {
        StringBuilder due = new StringBuilder();
        long x = seed;
        for (char letter : word.toCharArray()) {
            // the low 32 bits of a product of longs are those of the product of ints
            x = x * 1103515245L + 12345L & 0xFFFFFFFFL;
            int high = (int) (x / 65536);
            due.append(letter == 'a' ? "abc".charAt(high % 3) : letter == 'b' ? "de".charAt(high % 2) : letter);
        }
        return due.toString();
    }

    private static void choices() {
        Sentence wraps = Sentence.of(16, "For each letter that needs a choice, from left to right, x becomes x * 1103515245 + "
                + "12345, with int arithmetic that wraps, and the production (x >>> 16) % m is chosen, where m is the number of "
                + "productions of the letter; this is also done if m is 1.");
        String[] words = {"", "a", "ca", "cca", "abcabcabc", "ab".repeat(30), "c".repeat(59) + "a", "fedcba".repeat(10)};
        for (String word : words) {
            for (int seed : SEEDS) {
                Bench b = new Bench().list(0, 'a', "a", "b", "c").list(0, 'b', "d", "e").word(word);
                b.x.step(0, seed);
                wraps.same("a step of " + word + " with seed " + seed, b.current(), due(word, seed));
            }
        }
        // x becomes -1 with this seed, so that a division in place of >>> would differ
        int last = (int) ((-1L - 12345L) * inverse());
        Bench b = new Bench().list(0, 'a', "a", "b", "c").word("a");
        b.x.step(0, last);
        wraps.same("x is -1, and 65535 % 3 is 0", b.current(), "a");
        Bench two = new Bench().list(0, 'b', "d", "e").word("b");
        two.x.step(0, last);
        wraps.same("x is -1, and 65535 % 2 is 1", two.current(), "e");
        int first = (int) (-12345L * inverse());
        Bench zero = new Bench().list(0, 'a', "a", "b", "c").word("a");
        zero.x.step(0, first);
        wraps.same("x is 0", zero.current(), "a");
        Bench ruled = new Bench().list(0, 'a', "a", "b", "c").rule(0, 'c', 'd', "f").word("cda");
        ruled.x.step(0, 77);
        wraps.same("a letter with a rule needs no choice", ruled.current(), "cf" + due("ca", 77).charAt(1));
    }

    /** The inverse of 1103515245 modulo 2^32, by Newton's rule: each round doubles the bits that are right. */
    private static long inverse() {
        long inverse = 1;
        for (int round = 0; round < 6; round++) {
            inverse = inverse * (2 - 1103515245L * inverse);
        }
        return inverse;
    }

    private static void tooLong() {
        Sentence sixty = Sentence.of(16, "Throws `IllegalStateException` if the new word would have more than 60 letters");
        sixty.same("60 letters of 15", new Bench().list(0, 'a', "abcd").word("a".repeat(15)).x.step(0, 0), 60);
        sixty.same("60 letters of 59", new Bench().list(0, 'a', "ab").word("b".repeat(58) + "a").x.step(0, 0), 60);
        sixty.same("60 letters of 60", new Bench().list(0, 'a', "ab").list(0, 'c', "").word("b".repeat(58) + "ca")
            .x.step(0, 0), 60);
        sixty.same("60 letters by rules", new Bench().rule(0, 'a', 'b', "cccc").word("ab".repeat(12)).x.step(0, 0), 60);
        Bench dies = new Bench().list(0, 'a', "").list(0, 'b', "bbbb").word("a".repeat(45) + "b".repeat(15));
        sixty.same("letters that vanish first", dies.x.step(0, 0), 60);
        Scene[] scenes = {
            BUSY.with(b -> b.list(1, 'a', "ab").word("a" + "b".repeat(59))),
            BUSY.with(b -> b.list(1, 'a', "ab").list(1, 'b', "b").word("b".repeat(59) + "a")),
            BUSY.with(b -> b.list(1, 'a', "abcd").list(1, 'b', "b").word("b" + "a".repeat(15))),
            BUSY.with(b -> b.list(1, 'a', "abcd").word("a".repeat(60))),
            BUSY.with(b -> b.rule(1, 'a', 'c', "dddd").list(1, 'b', "b").word("ac".repeat(12) + "b"))};
        for (Scene scene : scenes) {
            sixty.refused("more than 60 letters", scene, Bench.STATE, x -> x.step(1, 0));
        }
        Scene chosen = BUSY.with(b -> b.list(2, 'a', "a", "aa").word("a".repeat(60)));
        sixty.refused("one choice of a longer production", chosen, Bench.STATE, x -> x.step(2, 3));
        Scene after = BUSY.with(b -> b.list(1, 'a', "ab").list(1, 'b', "b").word("b".repeat(57) + "a"));
        Bench b = after.make();
        sixty.same("59 letters", b.x.step(1, 0), 59);
        sixty.same("60 letters", b.x.step(1, 0), 60);
        sixty.same("61 letters", Checks.answerOf(() -> b.x.step(1, 0)), "IllegalStateException");
        sixty.yes("the step to 60 can be undone", b.x.undo());
        sixty.same("and no step was counted beyond it", b.x.wordLength(), 59);
    }

    /** A workbench with the word a, whose steps with table 0 make it ab, abb and so on. */
    private static Bench growing(int steps) {
        Bench b = new Bench().list(0, 'a', "ab").word("a");
        for (int i = 0; i < steps; i++) {
            b.x.step(0, 0);
        }
        return b;
    }

    private static void undo() {
        Sentence latest = Sentence.of(17, "Makes the current word what it was before the latest step that has not been undone.");
        Bench b = growing(2);
        b.x.undo();
        latest.same("the last of two steps", b.current(), "ab");
        b.x.undo();
        latest.same("the first of two steps", b.current(), "a");
        Bench mixed = growing(3);
        mixed.x.undo();
        mixed.x.step(1, 0);
        mixed.x.undo();
        latest.same("a step after an undo", mixed.current(), "abb");
        mixed.x.undo();
        latest.same("the step before it", mixed.current(), "ab");
        Bench same = growing(1);
        same.x.step(1, 0);
        same.x.step(1, 0);
        latest.yes("steps that change nothing are steps", same.x.undo() && same.x.undo() && same.x.undo());
        latest.same("before all of them", same.current(), "a");
        Bench gone = new Bench().list(0, 'a', "").word("abcdef".repeat(10).replace('b', 'a'));
        String word = gone.current();
        gone.x.step(0, 0);
        gone.x.step(0, 0);
        gone.x.undo();
        gone.x.undo();
        latest.same("a word of 60 letters", gone.current(), word);
        Bench empty = new Bench();
        empty.x.step(2, 0);
        latest.yes("a step of the empty word", empty.x.undo());
    }

    private static void undoEight() {
        Sentence eight = Sentence.of(17, "Only the last 8 steps can be undone.");
        for (int steps : new int[] {1, 7, 8, 9, 16, 17, 30}) {
            Bench b = growing(steps);
            int undone = Math.min(steps, 8);
            for (int i = 1; i <= undone; i++) {
                eight.yes("undo " + i + " of " + steps + " steps", b.x.undo());
                eight.same("the word", b.current(), "a" + "b".repeat(steps - i));
            }
            eight.no("undo " + (undone + 1) + " of " + steps + " steps", b.x.undo());
            eight.same("the word stays", b.current(), "a" + "b".repeat(steps - undone));
        }
        Bench again = growing(12);
        for (int i = 0; i < 8; i++) {
            again.x.undo();
        }
        for (int i = 0; i < 8; i++) {
            again.x.step(0, 0);
        }
        for (int i = 1; i <= 8; i++) {
            eight.yes("undo " + i + " of eight new steps", again.x.undo());
        }
        eight.no("undo 9 of eight new steps", again.x.undo());
        eight.same("the word before them", again.current(), "abbbb");
    }

    private static void forget() {
        Sentence forgets = Sentence.of(17, "A call of setWord or restore forgets all earlier steps.");
        for (int steps : new int[] {0, 1, 8, 9}) {
            Bench b = growing(steps);
            b.word("ab");
            forgets.no("undo after " + steps + " steps and setWord", b.x.undo());
            forgets.same("the word", b.current(), "ab");
            b.x.step(0, 0);
            forgets.yes("a step after setWord", b.x.undo());
            forgets.no("no step before", b.x.undo());
            Bench kept = growing(steps);
            kept.x.save();
            kept.x.restore();
            forgets.no("undo after " + steps + " steps and restore", kept.x.undo());
            forgets.same("the word after restore", kept.current(), "a" + "b".repeat(steps));
        }
        Bench refused = growing(2).text("ag");
        forgets.same("setWord that is refused", Checks.answerOf(refused.x::setWord), "IllegalArgumentException");
        forgets.yes("it forgets nothing", refused.x.undo());
        forgets.same("restore that is refused", Checks.answerOf(() -> {
            refused.x.restore();
            return "restored";
        }), "IllegalStateException");
        forgets.yes("it forgets nothing", refused.x.undo());
        Bench others = growing(1).target("ab").list(0, 'a', "").command('a', "draw").text("f");
        others.x.save();
        others.x.keepPoints(0, false);
        forgets.yes("no other call forgets", others.x.undo());
        forgets.same("the word before the step", others.current(), "a");
    }

    private static void undoAnswers() {
        Bench one = growing(1);
        Bench fresh = new Bench();
        Bench set = new Bench().word("abc");
        Sentence.of(17, "Returns true, or false if there is no such step; the current word does not change then.")
            .yes("one step", one.x.undo())
            .no("it is undone", one.x.undo())
            .same("its word", one.current(), "a")
            .no("a new object", fresh.x.undo())
            .same("its word", fresh.current(), "")
            .no("a word that was set", set.x.undo())
            .same("its word", set.current(), "abc");
    }
}
