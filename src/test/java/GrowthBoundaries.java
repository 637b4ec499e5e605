/** Boundaries of promises 18 to 21 and of what the description says of lengths. */
final class GrowthBoundaries {
    private static final Scene BUSY = Scene.busy();
    /** Table 0 has choices, table 2 has a rule; table 1 is plain and deterministic. */
    private static final Scene MIXED = BUSY.with(b -> b.word("ab"));
    private static final String TABLE = "- `table`: the table, 0 to 2";
    private static final String STEPS = "- `steps`: the number of steps, 0 to 1000";
    private static final String NO_TABLE = "Throws `IndexOutOfBoundsException` if there is no such table";
    private static final String WRONG_STEPS = "Throws `IllegalArgumentException` if the number of steps is out of range";
    private static final String WRONG_TABLE = "Throws `IllegalStateException` if the table is not deterministic or not plain";

    private GrowthBoundaries() {
    }

    static void run() {
        afterSteps();
        lengthAfter();
        lengthOverflow();
        countAfter();
        countOverflow();
        kinds();
        growthKind();
        growthDegree();
    }

    /** Three plain deterministic tables. */
    private static Scene plain() {
        return Scene.fresh().with(b -> b.list(0, 'a', "ab").list(1, 'b', "").list(2, 'c', "d").both("abc", "b"));
    }

    /** The table must be both; that a rule or a choice changes nothing does not help. */
    private static void refusesOtherTables(Sentence sentence, Call.WithNumber call) {
        sentence.refused("a table with choices", MIXED, Bench.STATE, x -> call.on(x, 0));
        sentence.refused("a table with a rule", MIXED, Bench.STATE, x -> call.on(x, 2));
        sentence.refused("a table with two equal productions", plain().with(b -> b.list(1, 'f', "f", "f")), Bench.STATE,
                x -> call.on(x, 1));
        sentence.refused("a rule that changes nothing", plain().with(b -> b.rule(1, 'f', 'f', "f")), Bench.STATE,
                x -> call.on(x, 1));
        sentence.refused("both", plain().with(b -> b.rule(1, 'f', 'f', "f").list(1, 'f', "f", "f")), Bench.STATE,
                x -> call.on(x, 1));
        Bench b = MIXED.make();
        sentence.no("a table that is both throws",
                Checks.answerOf(() -> call.on(b.x, 1)).toString().equals("IllegalStateException"));
        Bench again = plain().with(p -> p.rule(1, 'f', 'f', "f").list(1, 'f', "f", "f").list(1, 'f', "f")).make();
        again.x.removeContextRule(1, 5, 5);
        sentence.no("a table that is both again throws",
                Checks.answerOf(() -> call.on(again.x, 1)).toString().endsWith("Exception"));
    }

    private static void afterSteps() {
        Bench b = new Bench().list(0, 'a', "ab").list(0, 'b', "cc").list(0, 'c', "").word("aab");
        Sentence after = Sentence.of(0, "For a plain deterministic table, the word after n steps is the word that n steps with "
                + "the table give, one after the other, from the current word.");
        for (int n = 0; n <= 8; n++) {
            long length = b.x.lengthAfter(0, n);
            Bench walked = new Bench().list(0, 'a', "ab").list(0, 'b', "cc").list(0, 'c', "").word("aab");
            for (int i = 0; i < n; i++) {
                walked.x.step(0, i);
            }
            after.same("the length after " + n, length, (long) walked.x.wordLength());
            after.same("no step is the current word", walked.x.lengthAfter(0, 0), length);
        }
        Bench grows = new Bench().list(0, 'a', "aa").word("a".repeat(60));
        Sentence.of(0, "For these words there is no limit of the length.")
            .same("60 letters", new Bench().word("a".repeat(60)).x.lengthAfter(0, 1000), 60L)
            .same("120 letters", grows.x.lengthAfter(0, 1), 120L)
            .same("120 letters on the way to fewer",
                new Bench().list(0, 'a', "bb").list(0, 'b', "").word("a".repeat(60)).x.lengthAfter(0, 2), 0L)
            .same("of 120 letters those that are a", grows.x.countAfter(0, 1, 0), 120L)
            .same("a kind for more than 60 letters", grows.x.growthKind(0), 3)
            .same("an order for more than 60 letters", grows.x.recurrenceOrder(0), 1);
    }

    private static void lengthAfter() {
        Sentence.of(18, TABLE).takes(0, 2, plain(), Bench.INDEX, (x, table) -> x.lengthAfter(table, 1));
        Sentence.of(18, STEPS).takes(0, 1000, plain(), Bench.ARGUMENT, (x, steps) -> x.lengthAfter(0, steps))
            .same("no step", plain().make().x.lengthAfter(0, 0), 3L)
            .same("the most steps", plain().make().x.lengthAfter(0, 1000), 1003L)
            .same("one step less", plain().make().x.lengthAfter(0, 999), 1002L);
        Sentence.of(18, NO_TABLE).refusedOutside(0, 2, MIXED, Bench.INDEX, (x, table) -> x.lengthAfter(table, 0));
        Sentence.of(18, WRONG_STEPS).refusedOutside(0, 1000, MIXED, Bench.ARGUMENT, (x, steps) -> x.lengthAfter(1, steps))
            .refused("the empty word", BUSY.with(b -> b.word("")), Bench.ARGUMENT, x -> x.lengthAfter(1, 1001));
        refusesOtherTables(Sentence.of(18, WRONG_TABLE), (x, table) -> x.lengthAfter(table, 0));
    }

    private static Scene doubling(String word) {
        return BUSY.with(b -> b.list(1, 'a', "aa").list(1, 'b', "b").word(word));
    }

    /** a makes one c in each step beside two a, so that there are 2^(n+1) - 1 letters after n steps. */
    private static Scene mersenne() {
        return BUSY.with(b -> b.list(1, 'a', "aac").list(1, 'b', "b").word("a"));
    }

    /** After 2n steps there are 2^n letters, and after one step more four times as many. */
    private static Scene wave() {
        return BUSY.with(b -> b.list(1, 'a', "bbcc").list(1, 'b', "a").list(1, 'c', "").word("a"));
    }

    private static void lengthOverflow() {
        Sentence most = Sentence.of(18, "Throws `ArithmeticException` if the word after this number of steps, or after a lower "
                + "number of steps, has more than Long.MAX_VALUE letters");
        most.same("2^62 letters", doubling("a").make().x.lengthAfter(1, 62), 1L << 62);
        most.refused("2^63 letters", doubling("a"), Bench.ARITHMETIC, x -> x.lengthAfter(1, 63));
        most.refused("2^64 letters", doubling("a"), Bench.ARITHMETIC, x -> x.lengthAfter(1, 64));
        most.refused("2^1000 letters", doubling("a"), Bench.ARITHMETIC, x -> x.lengthAfter(1, 1000));
        most.same("Long.MAX_VALUE letters", mersenne().make().x.lengthAfter(1, 62), Long.MAX_VALUE);
        most.refused("more than that", mersenne(), Bench.ARITHMETIC, x -> x.lengthAfter(1, 63));
        most.same("2^63 - 2 letters of two kinds",
                mersenne().with(b -> b.word("aa").list(1, 'a', "aab")).make().x.lengthAfter(1, 61), (1L << 63) - 2);
        most.same("and one that stays makes Long.MAX_VALUE",
                mersenne().with(b -> b.word("aab")).make().x.lengthAfter(1, 61), Long.MAX_VALUE);
        most.refused("and two that stay make one more", mersenne().with(b -> b.word("aabb")), Bench.ARITHMETIC,
                x -> x.lengthAfter(1, 61));
        most.same("2^62 letters and one", doubling("aab").make().x.lengthAfter(1, 61), (1L << 62) + 1);
        most.refused("2^62 and 2^62 letters of two kinds",
                doubling("ab").with(b -> b.list(1, 'b', "bb")), Bench.ARITHMETIC, x -> x.lengthAfter(1, 62));
        most.same("before the wave", wave().make().x.lengthAfter(1, 122), 1L << 61);
        most.refused("in the wave", wave(), Bench.ARITHMETIC, x -> x.lengthAfter(1, 123));
        most.refused("2^62 letters behind the wave", wave(), Bench.ARITHMETIC, x -> x.lengthAfter(1, 124));
    }

    private static void countAfter() {
        Sentence.of(19, TABLE).takes(0, 2, plain(), Bench.INDEX, (x, table) -> x.countAfter(table, 1, 0));
        Sentence.of(19, STEPS).takes(0, 1000, plain(), Bench.ARGUMENT, (x, steps) -> x.countAfter(0, steps, 0))
            .same("no step", plain().make().x.countAfter(0, 0, 1), 1L)
            .same("the most steps", plain().make().x.countAfter(0, 1000, 1), 1001L);
        Sentence.of(19, "- `letter`: the letter, 0 to 5")
            .takes(0, 5, plain(), Bench.INDEX, (x, letter) -> x.countAfter(0, 1, letter))
            .same("the letter 0", new Bench().word("aaf").x.countAfter(0, 1, 0), 2L)
            .same("the letter 5", new Bench().word("aaf").x.countAfter(0, 1, 5), 1L)
            .same("a letter that is not there", new Bench().word("aaf").x.countAfter(0, 1, 4), 0L);
        Sentence.of(19, "Throws `IndexOutOfBoundsException` if there is no such table or letter")
            .refusedOutside(0, 2, MIXED, Bench.INDEX, (x, table) -> x.countAfter(table, 0, 0))
            .refusedOutside(0, 5, MIXED, Bench.INDEX, (x, letter) -> x.countAfter(1, 0, letter));
        Sentence.of(19, WRONG_STEPS).refusedOutside(0, 1000, MIXED, Bench.ARGUMENT, (x, steps) -> x.countAfter(1, steps, 5));
        refusesOtherTables(Sentence.of(19, WRONG_TABLE), (x, table) -> x.countAfter(table, 0, 0));
    }

    private static void countOverflow() {
        Sentence.of(19, "Throws `ArithmeticException` as for lengthAfter")
            .same("2^62 letters", doubling("a").make().x.countAfter(1, 62, 0), 1L << 62)
            .refused("2^63 letters", doubling("a"), Bench.ARITHMETIC, x -> x.countAfter(1, 63, 0))
            .refused("none among 2^63 letters", doubling("a"), Bench.ARITHMETIC, x -> x.countAfter(1, 63, 5))
            .same("one beside 2^62 letters", doubling("ab").make().x.countAfter(1, 62, 1), 1L)
            .refused("one beside 2^63 letters", doubling("ab"), Bench.ARITHMETIC, x -> x.countAfter(1, 63, 1))
            .same("of Long.MAX_VALUE letters those that are a", mersenne().make().x.countAfter(1, 62, 0), 1L << 62)
            .same("of Long.MAX_VALUE letters those that are c", mersenne().make().x.countAfter(1, 62, 2), (1L << 62) - 1)
            .refused("a letter among too many", mersenne(), Bench.ARITHMETIC, x -> x.countAfter(1, 63, 2))
            .refused("behind the wave", wave(), Bench.ARITHMETIC, x -> x.countAfter(1, 124, 0));
    }

    private static void kinds() {
        Bench dying = new Bench().list(0, 'a', "bbbb").list(0, 'b', "cccc").list(0, 'c', "dddd").list(0, 'd', "eeee")
                .list(0, 'e', "ffff").list(0, 'f', "");
        Sentence.of(0, "The growth of the current word is of kind 0 if the word after some number of steps is empty; otherwise of "
                + "kind 1 if the lengths of the words after n steps are bounded; otherwise of kind 2 if they are bounded by a "
                + "polynomial in n; otherwise of kind 3.")
            .same("empty after 0 steps", new Bench().x.growthKind(0), 0)
            .same("empty after 1 step", dying.word("f".repeat(60)).x.growthKind(0), 0)
            .same("empty after 6 steps", dying.word("a".repeat(60)).x.growthKind(0), 0)
            .same("the length after 5 steps", dying.x.lengthAfter(0, 5), 61440L)
            .same("one letter that never dies", dying.list(0, 'f', "f").word("f").x.growthKind(0), 1)
            .same("61440 letters that never die", dying.word("a".repeat(60)).x.growthKind(0), 1)
            .same("one letter more in each step", dying.list(0, 'f', "f").list(0, 'e', "ef").word("e").x.growthKind(0), 2)
            .same("a ring of all letters", ring("a").word("abcdef").x.growthKind(0), 1)
            .same("a ring of all letters that doubles in six steps", ring("aa").word("c").x.growthKind(0), 3)
            .same("the highest degree", tower().word("f").x.growthKind(0), 2)
            .same("a letter of kind 3 that is not reached", new Bench().list(0, 'f', "ff").word("a").x.growthKind(0), 1)
            .same("a letter of kind 3 that is reached last",
                new Bench().list(0, 'a', "b").list(0, 'b', "c").list(0, 'c', "d").list(0, 'd', "e").list(0, 'e', "f")
                    .list(0, 'f', "ff").word("a").x.growthKind(0), 3)
            .same("a letter in two rings, of one and of six letters", ring("af").word("a").x.growthKind(0), 3)
            .same("kinds of one object, one after the other", kindsOfOneObject(), "3 0 2 1 0");
        Sentence lowest = Sentence.of(0, "The degree of a growth of kind 2 is the lowest degree of such a polynomial.");
        for (int degree = 1; degree <= 5; degree++) {
            Bench b = tower().word("abcdef".substring(degree, degree + 1));
            lowest.same("the degree of " + b.current(), b.x.growthDegree(0), degree);
        }
        lowest.same("two rings of three letters", new Bench().list(0, 'a', "b").list(0, 'b', "c").list(0, 'c', "ad")
            .list(0, 'd', "e").list(0, 'e', "f").list(0, 'f', "d").word("a").x.growthDegree(0), 1);
        lowest.same("a ring through the first and the last letter", new Bench().list(0, 'f', "a").list(0, 'a', "e")
            .list(0, 'e', "fd").word("e").x.growthDegree(0), 1);
        lowest.same("a letter between two rings, the first one", new Bench().list(0, 'b', "ba").list(0, 'a', "d").word("b")
            .x.growthDegree(0), 1);
        lowest.same("a letter between two rings, the last one", new Bench().list(0, 'b', "bf").list(0, 'f', "d").word("b")
            .x.growthDegree(0), 1);
        lowest.same("two ways to the same ring", new Bench().list(0, 'a', "abc").list(0, 'b', "d").list(0, 'c', "d")
            .word("a").x.growthDegree(0), 1);
        lowest.same("rings side by side", new Bench().list(0, 'a', "ac").list(0, 'b', "bc").word("ab").x.growthDegree(0), 1);
    }

    /** What an earlier call has found must not stay for a later one. */
    private static String kindsOfOneObject() {
        Bench b = ring("aa").word("a");
        String kinds = b.x.growthKind(0) + " ";
        kinds += b.list(0, 'f', "").x.growthKind(0) + " ";
        kinds += b.list(0, 'a', "ae").list(0, 'f', "f").x.growthKind(0) + " ";
        kinds += b.list(0, 'a', "e").x.growthKind(0) + " ";
        return kinds + b.list(0, 'f', "").x.growthKind(0);
    }

    private static Bench ring(String last) {
        return new Bench().list(0, 'a', "b").list(0, 'b', "c").list(0, 'c', "d").list(0, 'd', "e").list(0, 'e', "f")
                .list(0, 'f', last);
    }

    /** Each letter stays and makes the one before it. */
    private static Bench tower() {
        return new Bench().list(0, 'b', "ba").list(0, 'c', "cb").list(0, 'd', "dc").list(0, 'e', "ed").list(0, 'f', "fe");
    }

    private static void growthKind() {
        Sentence.of(20, TABLE).takes(0, 2, plain(), Bench.INDEX, (x, table) -> x.growthKind(table));
        Sentence.of(20, "Returns 0 to 3.")
            .same("the lowest", new Bench().list(2, 'a', "").word("a").x.growthKind(2), 0)
            .same("1", new Bench().word("a").x.growthKind(2), 1)
            .same("2", new Bench().list(2, 'a', "ab").word("a").x.growthKind(2), 2)
            .same("the highest", new Bench().list(2, 'a', "aaaa").word("a").x.growthKind(2), 3);
        Sentence.of(20, NO_TABLE).refusedOutside(0, 2, MIXED, Bench.INDEX, (x, table) -> x.growthKind(table));
        refusesOtherTables(Sentence.of(20, WRONG_TABLE), (x, table) -> x.growthKind(table));
    }

    private static void growthDegree() {
        Sentence.of(21, TABLE).takes(0, 2, plain(), Bench.INDEX, (x, table) -> x.growthDegree(table));
        Sentence.of(21, "Returns the degree; 0 if the growth is of kind 0 or 1.")
            .same("the empty word", new Bench().x.growthDegree(0), 0)
            .same("a word that dies", new Bench().list(0, 'a', "").word("a").x.growthDegree(0), 0)
            .same("a word that stays", new Bench().word("abcdef").x.growthDegree(0), 0)
            .same("a growth of kind 2", new Bench().list(0, 'a', "ab").word("a").x.growthDegree(0), 1)
            .same("the highest degree", tower().word("f").x.growthDegree(0), 5);
        Sentence.of(21, NO_TABLE).refusedOutside(0, 2, MIXED, Bench.INDEX, (x, table) -> x.growthDegree(table));
        refusesOtherTables(Sentence.of(21, WRONG_TABLE), (x, table) -> x.growthDegree(table));
        Sentence.of(21, "Throws `ArithmeticException` if the growth is of kind 3")
            .refused("a letter that doubles", doubling("a"), Bench.ARITHMETIC, x -> x.growthDegree(1))
            .refused("beside one of kind 1", doubling("ab"), Bench.ARITHMETIC, x -> x.growthDegree(1))
            .refused("behind one of kind 2", doubling("c").with(b -> b.list(1, 'c', "ca").word("c")), Bench.ARITHMETIC,
                x -> x.growthDegree(1))
            .same("a letter that doubles but is not there", doubling("b").make().x.growthDegree(1), 0);
    }
}
