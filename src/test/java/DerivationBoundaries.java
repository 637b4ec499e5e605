/** Boundaries of promises 27 to 29. */
final class DerivationBoundaries {
    private static final Scene BUSY = Scene.busy();
    private static final String STEPS = "- `steps`: the length of the sequences, 0 to 5";
    private static final String WRONG_STEPS = "Throws `IllegalArgumentException` if the number of steps is out of range";
    private static final String WRONG_TABLE = "Throws `IllegalStateException` if one of the tables is not deterministic";

    private DerivationBoundaries() {
    }

    static void run() {
        ways();
        mostWays();
        sequenceCount();
        longWords();
        firstSequence();
    }

    private static void ways() {
        Sentence.of(27, "- `table`: the table, 0 to 2").takes(0, 2, BUSY, Bench.INDEX, (x, table) -> x.ways(table));
        Sentence.of(27, "Throws `IndexOutOfBoundsException` if there is no such table")
            .refusedOutside(0, 2, BUSY, Bench.INDEX, (x, table) -> x.ways(table));
        Sentence.of(27, "Returns for how many choices a step with a table leads from the current word to the target word.")
            .same("from the empty word to itself", new Bench().list(0, 'a', "", "", "").x.ways(0), 1L)
            .same("from the empty word to a letter", new Bench().both("", "a").x.ways(0), 0L)
            .same("from 60 letters to the empty word", new Bench().list(0, 'a', "a", "").both("a".repeat(60), "").x.ways(0), 1L)
            .same("from 15 letters to 60", new Bench().list(0, 'a', "aaaa", "aaa").both("a".repeat(15), "a".repeat(60))
                .x.ways(0), 1L)
            .same("from 16 letters to 60 of at most 64", new Bench().list(0, 'a', "aaaa", "aaa")
                .both("a".repeat(16), "a".repeat(60)).x.ways(0), 1820L)
            .same("only to 64 letters", new Bench().list(0, 'a', "aaaa").both("a".repeat(16), "a".repeat(60)).x.ways(0), 0L)
            .same("to 59 of 60 letters", new Bench().both("a".repeat(60), "a".repeat(59)).x.ways(0), 0L);
        Sentence.of(27, "Returns the number of different choices.")
            .same("three equal productions", new Bench().list(0, 'a', "b", "b", "b").both("aa", "bb").x.ways(0), 9L)
            .same("three empty productions", new Bench().list(0, 'a', "", "", "").both("aa", "").x.ways(0), 9L)
            .same("no choice at all", new Bench().list(0, 'a', "b").both("aa", "bb").x.ways(0), 1L);
    }

    /**
     * Eight letters c make one f in 8 * 2^7 ways, and the letter e keeps six such parts apart, so that they have
     * 2^60 ways together; each a behind them has two.
     */
    private static Scene powers(int doublings) {
        return BUSY.with(b -> b.list(1, 'c', "", "", "f").list(1, 'a', "", "")
            .both("cccccccce".repeat(5) + "cccccccc" + "a".repeat(doublings), "fefefefefef"));
    }

    private static void mostWays() {
        Sentence most = Sentence.of(27, "Throws `ArithmeticException` if the number is greater than Long.MAX_VALUE");
        most.same("2^62", powers(2).make().x.ways(1), 1L << 62);
        most.refused("2^63", powers(3), Bench.ARITHMETIC, x -> x.ways(1));
        most.refused("2^64", powers(4), Bench.ARITHMETIC, x -> x.ways(1));
        most.refused("2^65", powers(5), Bench.ARITHMETIC, x -> x.ways(1));
        Scene three = BUSY.with(b -> b.list(1, 'a', "", "", "").both("a".repeat(60), ""));
        most.refused("3^60", three, Bench.ARITHMETIC, x -> x.ways(1));
        most.same("3^60 that do not reach the target", three.with(b -> b.target("a")).make().x.ways(1), 0L);
        most.same("3^59 to the beginning of the target", three.with(b -> b.list(1, 'b', "b", "c").both("a".repeat(59) + "b", "d"))
            .make().x.ways(1), 0L);
        // 59 letters a make 16 letters f in fewer than 2^63 ways, and 17 in more; the last letter adds the two
        String[][] lists = {{"", "f"}, {"f", ""}};
        for (String[] last : lists) {
            Scene sum = BUSY.with(b -> b.list(1, 'a', "", "f", "f").list(1, 'c', last).both("a".repeat(59) + "c", "f".repeat(17)));
            most.refused("a number that is too great and one that is not", sum, Bench.ARITHMETIC, x -> x.ways(1));
        }
        Scene sixteen = BUSY.with(b -> b.list(1, 'a', "", "f", "f").both("a".repeat(59), "f".repeat(16)));
        most.same("16 letters f", sixteen.make().x.ways(1), binomial(59, 16) << 16);
        Bench after = three.make();
        most.same("too many ways", Checks.answerOf(() -> after.x.ways(1)), "ArithmeticException");
        most.same("then none of them", after.both("b", "").x.ways(1), 0L);
        most.same("then one", after.both("a", "a").list(1, 'a', "a").x.ways(1), 1L);
        most.same("then none from the empty word", after.word("").x.ways(1), 0L);
        // four parts, kept apart by e, whose ways multiply to 2^63 - 1
        Scene max = Scene.fresh().with(b -> b.list(0, 'a', "", "ffff").list(0, 'b', "", "f", "ff").list(0, 'c', "", "", "f")
            .list(0, 'd', "", "f", "fff").list(0, 'f', "", "ff", "fff")
            .both("abb" + "c".repeat(9) + "ddf" + "e" + "b".repeat(7) + "cdfffff" + "e" + "aabcccccdddffff" + "e" + "ccdddddffff",
                "f".repeat(15) + "e" + "f".repeat(24) + "e" + "f".repeat(7) + "e" + "f".repeat(7)));
        most.same("Long.MAX_VALUE", max.make().x.ways(0), Long.MAX_VALUE);
    }

    private static long binomial(int n, int k) {
        long product = 1;
        for (int i = 1; i <= k; i++) {
            product = product * (n - k + i) / i;
        }
        return product;
    }

    /** Table 0 leaves all as it is, 1 makes b of a, and 2 makes a of b. */
    private static Scene turning(String word, String target) {
        return BUSY.with(b -> {
            b.x.removeContextRule(0, 0, 1);
            b.x.removeContextRule(0, 1, 2);
            b.x.removeContextRule(2, 3, 3);
            b.list(0, 'a', "a").list(1, 'a', "b").list(1, 'b', "b").list(2, 'b', "a").list(2, 'c', "c").both(word, target);
        });
    }

    private static void refusesTables(Sentence sentence, Call.WithNumber call) {
        for (int table = 0; table < 3; table++) {
            int one = table;
            for (int steps = 0; steps <= 5; steps += 5) {
                int n = steps;
                sentence.refused("choices in table " + table, turning("a", "a").with(b -> b.list(one, 'f', "f", "f")),
                        Bench.STATE, x -> call.on(x, n));
            }
        }
        Bench rules = turning("a", "a").with(b -> b.rule(0, 'f', 'f', "")).make();
        sentence.no("a rule is refused", Checks.answerOf(() -> call.on(rules.x, 5)).toString().endsWith("Exception"));
    }

    private static void sequenceCount() {
        Sentence.of(28, STEPS)
            .takes(0, 5, turning("a", "b"), Bench.ARGUMENT, (x, steps) -> x.sequenceCount(steps))
            .same("no step, the target", turning("a", "a").make().x.sequenceCount(0), 1)
            .same("no step, another word", turning("a", "b").make().x.sequenceCount(0), 0)
            .same("five steps, all sequences", new Bench().both("abc", "abc").x.sequenceCount(5), 243);
        Sentence.of(28, WRONG_STEPS)
            .refusedOutside(0, 5, turning("a", "b"), Bench.ARGUMENT, (x, steps) -> x.sequenceCount(steps));
        refusesTables(Sentence.of(28, WRONG_TABLE), (x, steps) -> x.sequenceCount(steps));
        Sentence.of(28, "Returns the number of sequences.")
            .same("none", turning("a", "c").make().x.sequenceCount(5), 0)
            .same("all, from the empty word", new Bench().x.sequenceCount(5), 243)
            .same("one step", turning("a", "b").make().x.sequenceCount(1), 1)
            .same("two steps: 01 10 11 21", turning("a", "b").make().x.sequenceCount(2), 4)
            .same("all, asked twice", askedTwice(), 243);
        Sentence.of(28, "Returns how many sequences of tables lead from the current word to the target word by one step with each "
                + "table of the sequence, one after the other.")
            .same("the target on the way does not count", turning("b", "b").with(b -> b.list(0, 'b', "c").list(1, 'b', "c"))
                .make().x.sequenceCount(1), 0)
            .same("no step", turning("b", "b").make().x.sequenceCount(0), 1);
    }

    private static int askedTwice() {
        Bench b = new Bench();
        b.x.sequenceCount(5);
        return b.x.sequenceCount(5);
    }

    /** Table 0 makes four b of each a, table 1 takes each b away, and table 2 takes each a away. */
    private static Bench wide(String word, String target) {
        return new Bench().list(0, 'a', "bbbb").list(1, 'b', "").list(2, 'a', "").both(word, target);
    }

    private static void longWords() {
        Sentence sixty = Sentence.of(28, "Sequences with a word of more than 60 letters on the way, or at the end, do not count.");
        sixty.same("60 letters at the end", wide("a".repeat(15), "b".repeat(60)).x.sequenceCount(1), 1);
        sixty.same("64 letters at the end, of which 60 are the target", wide("a".repeat(16), "b".repeat(60)).x.sequenceCount(1), 0);
        sixty.same("60 letters on the way: 01 12 20 21 22", wide("a".repeat(15), "").x.sequenceCount(2), 5);
        sixty.same("61 letters on the way: 12 and 21 are left", wide("a".repeat(15) + "b", "").x.sequenceCount(2), 2);
        sixty.same("64 letters on the way: 12 20 21 22 are left", wide("a".repeat(16), "").x.sequenceCount(2), 4);
        Bench all = new Bench().list(0, 'a', "aa").list(1, 'a', "aa").list(2, 'a', "aa").both("a".repeat(31), "a".repeat(31));
        sixty.same("every sequence is too long", all.x.sequenceCount(5), 0);
    }

    private static void firstSequence() {
        Sentence.of(29, "- `steps`: the length of the sequence, 0 to 5")
            .takes(0, 5, turning("a", "a"), Bench.ARGUMENT, (x, steps) -> x.firstSequence(steps));
        Sentence.of(29, WRONG_STEPS)
            .refusedOutside(0, 5, turning("a", "a"), Bench.ARGUMENT, (x, steps) -> x.firstSequence(steps));
        refusesTables(Sentence.of(29, WRONG_TABLE), (x, steps) -> x.firstSequence(steps));
        Sentence.of(29, "Returns the sequence as a number in base 3, in which the first table is the most significant digit; 0 for "
                + "the empty sequence.")
            .same("the empty sequence", turning("a", "a").make().x.firstSequence(0), 0)
            .same("00000", turning("a", "a").make().x.firstSequence(5), 0)
            .same("00001", turning("a", "b").make().x.firstSequence(5), 1)
            .same("00002", turning("b", "a").make().x.firstSequence(5), 2)
            .same("22222", new Bench().list(2, 'a', "b").list(2, 'b', "c").list(2, 'c', "d").list(2, 'd', "e")
                .list(2, 'e', "f").both("a", "f").x.firstSequence(5), 242)
            .same("12000, behind 20000", new Bench().list(1, 'a', "b").list(2, 'b', "c").list(0, 'c', "d").list(0, 'd', "e")
                .list(0, 'e', "f").both("a", "f").x.firstSequence(5), 135);
        Sentence.of(29, "Returns the lexicographically first one of the sequences that sequenceCount counts.")
            .same("01 of 01 10 11 21", turning("a", "b").make().x.firstSequence(2), 1)
            .same("60 letters on the way", wide("a".repeat(15), "").x.firstSequence(2), 1)
            .same("64 letters on the way", wide("a".repeat(16), "").x.firstSequence(2), 5);
        Sentence none = Sentence.of(29, "Throws `NoSuchElementException` if there is no such sequence");
        none.refused("no step to another word", turning("a", "b"), Bench.MISSING, x -> x.firstSequence(0));
        none.same("one step to it", turning("a", "b").make().x.firstSequence(1), 1);
        none.refused("no way", turning("a", "c"), Bench.MISSING, x -> x.firstSequence(5));
        none.refused("only one that is too short",
                turning("a", "b").with(b -> b.list(0, 'b', "c").list(1, 'b', "c").list(2, 'b', "c").list(0, 'a', "c").list(2, 'a', "c")),
                Bench.MISSING, x -> x.firstSequence(2));
        none.refused("only one with 64 letters", Scene.fresh().with(b -> b.list(0, 'a', "bbbb").list(1, 'b', "")
            .both("a".repeat(16), "")), Bench.MISSING, x -> x.firstSequence(2));
    }
}
