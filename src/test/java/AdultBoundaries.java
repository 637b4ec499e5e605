/** Boundaries of promises 24 to 26 and of what the description says of adult words. */
final class AdultBoundaries {
    private static final Scene BUSY = Scene.busy();
    private static final String TABLE = "- `table`: the table, 0 to 2";
    private static final String NO_TABLE = "Throws `IndexOutOfBoundsException` if there is no such table";

    private AdultBoundaries() {
    }

    static void run() {
        adult();
        isAdult();
        stepsToAdult();
        stepsToAdultMissing();
        adultWords();
    }

    private static void adult() {
        String sixty = "abcdef".repeat(10);
        Sentence.of(0, "A word is adult for a table if each step with this table, for all choices, gives the word itself.")
            .yes("the empty word", new Bench().list(0, 'a', "", "b", "c").x.isAdult(0))
            .yes("60 letters", new Bench().word(sixty).x.isAdult(0))
            .no("60 letters, of which the last changes", new Bench().list(0, 'e', "e", "e", "f").list(0, 'f', "f")
                .word("f".repeat(59) + "e").x.isAdult(0))
            .no("60 letters that become 61", new Bench().list(0, 'a', "aa").word("b".repeat(59) + "a").x.isAdult(0))
            .no("60 letters that become 59", new Bench().list(0, 'a', "").word("b".repeat(59) + "a").x.isAdult(0))
            .no("60 letters of which some choice makes 240", new Bench().list(0, 'a', "a", "a", "aaaa").word("a".repeat(60))
                .x.isAdult(0))
            .yes("letters that vanish and letters that make them", new Bench().list(0, 'a', "ab").list(0, 'b', "")
                .word("ab".repeat(30)).x.isAdult(0))
            .yes("equal productions in place of longer ones", new Bench().list(0, 'a', "af", "ae").list(0, 'a', "a", "a")
                .word("a").x.isAdult(0))
            .yes("three equal productions", new Bench().list(0, 'a', "a", "a", "a").word("a".repeat(60)).x.isAdult(0))
            .no("the third production is another", new Bench().list(0, 'a', "a", "a", "b").word("a").x.isAdult(0))
            .no("the second production is longer", new Bench().list(0, 'a', "a", "aa").word("a").x.isAdult(0))
            .no("the second production is empty", new Bench().list(0, 'a', "a", "").word("a").x.isAdult(0))
            .yes("choices of a letter that is not there", new Bench().list(0, 'a', "a", "b").word("bcdef").x.isAdult(0))
            .yes("choices that a rule takes away", new Bench().list(0, 'a', "b", "c").rule(0, 'b', 'a', "a").word("baba")
                .x.isAdult(0))
            .no("a rule has no left letter at the beginning", new Bench().list(0, 'a', "b", "c").rule(0, 'b', 'a', "a")
                .word("ab").x.isAdult(0));
    }

    private static void isAdult() {
        Sentence.of(24, TABLE).takes(0, 2, BUSY, Bench.INDEX, (x, table) -> x.isAdult(table));
        Sentence.of(24, NO_TABLE).refusedOutside(0, 2, BUSY, Bench.INDEX, (x, table) -> x.isAdult(table))
            .refusedOutside(0, 2, Scene.fresh(), Bench.INDEX, (x, table) -> x.isAdult(table));
    }

    /** In table 1 each b behind a vanishes, one in each step. */
    private static Scene vanishing(int steps) {
        return BUSY.with(b -> b.list(1, 'b', "b").rule(1, 'a', 'b', "").word("a" + "b".repeat(steps)));
    }

    private static void stepsToAdult() {
        Scene three = Scene.fresh().with(b -> b.list(0, 'c', "").list(1, 'c', "").list(2, 'c', "").word("acb"));
        Sentence.of(25, TABLE).takes(0, 2, three, Bench.INDEX, (x, table) -> x.stepsToAdult(table, 1));
        Sentence.of(25, "- `limit`: the greatest number of steps, 0 to 50")
            .takes(0, 50, vanishing(0), Bench.ARGUMENT, (x, limit) -> x.stepsToAdult(1, limit))
            .same("50 steps of 50", vanishing(50).make().x.stepsToAdult(1, 50), 50)
            .same("0 steps of 0", vanishing(0).make().x.stepsToAdult(1, 0), 0);
        Sentence.of(25, NO_TABLE).refusedOutside(0, 2, BUSY, Bench.INDEX, (x, table) -> x.stepsToAdult(table, 50));
        Sentence.of(25, "Throws `IllegalArgumentException` if limit is out of range")
            .refusedOutside(0, 50, vanishing(0), Bench.ARGUMENT, (x, limit) -> x.stepsToAdult(1, limit))
            .refusedOutside(0, 50, vanishing(51), Bench.ARGUMENT, (x, limit) -> x.stepsToAdult(1, limit));
        Sentence.of(25, "Throws `IllegalStateException` if the table is not deterministic")
            .refused("choices", BUSY, Bench.STATE, x -> x.stepsToAdult(0, 50))
            .refused("two equal productions", vanishing(1).with(b -> b.list(1, 'f', "f", "f")), Bench.STATE,
                x -> x.stepsToAdult(1, 50))
            .refused("the empty word, which is adult", BUSY.with(b -> b.word("")), Bench.STATE, x -> x.stepsToAdult(0, 0))
            .same("rules are no choices", vanishing(1).make().x.stepsToAdult(1, 50), 1);
        Sentence.of(25, "Returns the number of steps, 0 if the current word is adult.")
            .same("the empty word", new Bench().x.stepsToAdult(0, 0), 0)
            .same("a word of 60", new Bench().word("a".repeat(60)).x.stepsToAdult(0, 50), 0)
            .same("one step", vanishing(1).make().x.stepsToAdult(1, 50), 1);
        Sentence lowest = Sentence.of(25, "Returns the lowest number of steps after which the current word becomes a word that is "
                + "adult for the table.");
        for (int steps : new int[] {0, 1, 2, 49, 50}) {
            lowest.same(steps + " steps", vanishing(steps).make().x.stepsToAdult(1, 50), steps);
            lowest.same(steps + " steps, just in time", vanishing(steps).make().x.stepsToAdult(1, steps), steps);
        }
        Bench stays = vanishing(7).make();
        stays.x.stepsToAdult(1, 50);
        Sentence.of(25, "The current word does not change.")
            .same("the word", stays.current(), "abbbbbbb")
            .no("a step to undo", stays.x.undo());
    }

    private static void stepsToAdultMissing() {
        Sentence none = Sentence.of(25, "Throws `NoSuchElementException` if there is no such number up to the limit, or a word "
                + "with more than 60 letters comes before");
        for (int steps : new int[] {1, 2, 50}) {
            none.same("the limit " + steps, vanishing(steps).make().x.stepsToAdult(1, steps), steps);
            none.refused("the limit " + (steps - 1) + " of " + steps, vanishing(steps), Bench.MISSING,
                    x -> x.stepsToAdult(1, steps - 1));
        }
        none.refused("51 steps", vanishing(51), Bench.MISSING, x -> x.stepsToAdult(1, 50));
        none.refused("two words in turn", BUSY.with(b -> b.list(1, 'a', "b").list(1, 'b', "a").word("ab")), Bench.MISSING,
                x -> x.stepsToAdult(1, 50));
        Scene sixty = BUSY.with(b -> b.list(1, 'a', "bbbb").list(1, 'b', "").word("a".repeat(15)));
        none.same("60 letters on the way", sixty.make().x.stepsToAdult(1, 50), 2);
        Scene more = BUSY.with(b -> b.list(1, 'a', "bbbb").list(1, 'b', "").word("a".repeat(15) + "c"));
        none.refused("61 letters on the way", more, Bench.MISSING, x -> x.stepsToAdult(1, 50));
        Scene adult = BUSY.with(b -> b.list(1, 'a', "bbbb").list(1, 'b', "b").word("a".repeat(15)));
        none.same("an adult word of 60 letters", adult.make().x.stepsToAdult(1, 1), 1);
        Scene beyond = BUSY.with(b -> b.list(1, 'a', "bbbb").list(1, 'b', "b").word("a".repeat(15) + "c"));
        none.refused("an adult word of 61 letters", beyond, Bench.MISSING, x -> x.stepsToAdult(1, 50));
        none.refused("60 letters that grow, limit 0", BUSY.with(b -> b.list(1, 'a', "aa").word("a".repeat(60))), Bench.MISSING,
                x -> x.stepsToAdult(1, 0));
    }

    private static void adultWords() {
        Sentence.of(26, TABLE).takes(0, 2, BUSY, Bench.INDEX, (x, table) -> x.adultWords(table, 4));
        Sentence.of(26, "- `length`: the length, 0 to 4")
            .takes(0, 4, BUSY, Bench.ARGUMENT, (x, length) -> x.adultWords(1, length))
            .same("the shortest", new Bench().x.adultWords(0, 0), 1)
            .same("the longest", new Bench().x.adultWords(0, 4), 1296);
        Sentence.of(26, NO_TABLE).refusedOutside(0, 2, BUSY, Bench.INDEX, (x, table) -> x.adultWords(table, 0));
        Sentence.of(26, "Throws `IllegalArgumentException` if length is out of range")
            .refusedOutside(0, 4, BUSY, Bench.ARGUMENT, (x, length) -> x.adultWords(1, length));
        Bench none = new Bench();
        Bench growing = new Bench();
        for (char letter = 'a'; letter <= 'f'; letter++) {
            none.list(0, letter, "");
            growing.list(0, letter, "aaaa", "aaaa", "aaaa");
        }
        Sentence counts = Sentence.of(26, "Returns the number of words of a length that are adult for a table.");
        for (int length = 0; length <= 4; length++) {
            counts.same("all letters vanish", none.x.adultWords(0, length), length == 0 ? 1 : 0);
            counts.same("all letters become aaaa", growing.x.adultWords(0, length), length == 0 ? 1 : 0);
            counts.same("all words of " + length, new Bench().x.adultWords(2, length), (int) Math.pow(6, length));
        }
        Bench four = new Bench();
        for (char letter = 'b'; letter <= 'f'; letter++) {
            four.list(0, letter, "");
        }
        four.list(0, 'a', "bacd");
        counts.same("one letter that makes four: bacd alone", four.x.adultWords(0, 4), 1);
        counts.same("and none of three", four.x.adultWords(0, 3), 0);
        four.word("abcd").x.stepsToAdult(0, 50);
        counts.same("the empty word after steps of another", four.x.adultWords(0, 0), 1);
        four.x.stepsToAdult(0, 50);
        counts.same("none of three after steps of another", four.x.adultWords(0, 3), 0);
    }
}
