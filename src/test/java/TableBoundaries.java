import java.util.Arrays;

/** Boundaries of promises 4 to 10 and of what the description says of tables. */
final class TableBoundaries {
    private static final Scene BUSY = Scene.busy();
    private static final String WRONG_TEXT =
        "Throws `IllegalArgumentException` if the text contains another character than a to f or has more than 4 characters";
    private static final String NO_TABLE_OR_LETTER =
        "Throws `IndexOutOfBoundsException` if there is no such table or letter";
    private static final String TABLE = "- `table`: the table, 0 to 2";
    private static final String LETTER = "- `letter`: the letter, 0 to 5";
    private static final String[] WRONG_TEXTS =
        {"g", "`", "A", "F", " ", "a b", "abcg", "gabc", "~", "abcde", "aaaaa", "ab".repeat(30), "?".repeat(60), "abcdg"};

    private TableBoundaries() {
    }

    static void run() {
        tables();
        lists();
        rules();
        kindsOfTables();
        setProduction();
        addProduction();
        productionCount();
        setContextRule();
        removeContextRule();
        isDeterministic();
        isPlain();
    }

    private static void tables() {
        Sentence three = Sentence.of(0, "There are 3 tables, numbered from 0.");
        Bench b = new Bench().list(0, 'a', "b").list(1, 'a', "c").list(2, 'a', "d");
        for (int table = 0; table < 3; table++) {
            b.word("a").x.step(table, 0);
            three.same("a step with table " + table, b.current(), String.valueOf("bcd".charAt(table)));
        }
        three.refused("table -1", BUSY, Bench.INDEX, x -> x.isPlain(-1));
        three.refused("table 3", BUSY, Bench.INDEX, x -> x.isPlain(3));
    }

    private static void lists() {
        Sentence list = Sentence.of(0, "A table has for each letter a list of 1 to 3 productions, numbered from 0.");
        for (int letter = 0; letter < 6; letter++) {
            Bench b = new Bench().text("ab");
            list.same("productions at first", b.x.productionCount(1, letter), 1);
            list.same("the second one's number", b.x.addProduction(1, letter), 1);
            list.same("the third one's number", b.x.addProduction(1, letter), 2);
            list.same("productions at last", b.x.productionCount(1, letter), 3);
        }
        list.refused("a fourth one", BUSY.with(b -> b.list(1, 'f', "a", "b", "c")), Bench.STATE, x -> x.addProduction(1, 5));
        Sentence word = Sentence.of(0, "A production is a word of at most 4 letters; two productions of a list may be equal.");
        word.same("a production of 4", new Bench().text("abcd").x.setProduction(0, 0), 4);
        word.same("a production of 0", new Bench().text("").x.setProduction(0, 0), 0);
        word.refused("a production of 5", BUSY.with(b -> b.text("abcde")), Bench.ARGUMENT, x -> x.setProduction(0, 0));
        Bench equal = new Bench().list(0, 'a', "fedc", "fedc", "fedc").both("aa", "fedcfedc");
        word.same("three that are equal", equal.x.productionCount(0, 0), 3);
        word.same("ways with three that are equal", equal.x.ways(0), 9L);
        Bench empty = new Bench().list(0, 'a', "", "", "").both("aa", "");
        word.same("ways with three that are empty", empty.x.ways(0), 9L);
        Sentence first = Sentence.of(0, "At first each list has one production, which is the letter itself.");
        for (int table = 0; table < 3; table++) {
            Bench b = new Bench().both("abcdef", "abcdef");
            first.same("ways at first", b.x.ways(table), 1L);
            for (int letter = 0; letter < 6; letter++) {
                first.same("productions at first", b.x.productionCount(table, letter), 1);
            }
        }
    }

    private static void rules() {
        Sentence six = Sentence.of(0, "A table also has context rules, at most 6; at first it has none.");
        for (int table = 0; table < 3; table++) {
            Bench b = new Bench();
            six.yes("a table is plain at first", b.x.isPlain(table));
            for (int pair = 0; pair < 36; pair++) {
                six.no("a rule at first", b.x.removeContextRule(table, pair / 6, pair % 6));
            }
            for (int letter = 0; letter < 6; letter++) {
                six.no("rule number " + letter, b.x.setContextRule(table, letter, 5 - letter));
            }
            int full = table;
            six.refused("a seventh rule", sixRules(table), Bench.STATE, x -> x.setContextRule(full, 0, 0));
        }
        Sentence pair = Sentence.of(0, "A context rule consists of two letters, the left letter and the replaced letter, and of "
                + "a production; a table has at most one context rule for the same two letters in this order.");
        Bench b = new Bench().rule(0, 'a', 'b', "c");
        pair.yes("the same two letters", b.text("dddd").x.setContextRule(0, 0, 1));
        pair.no("the other order", b.text("e").x.setContextRule(0, 1, 0));
        b.word("aba").x.step(0, 0);
        pair.same("a step with both", b.current(), "adddde");
        pair.yes("the one for a b", b.x.removeContextRule(0, 0, 1));
        pair.no("a second one for a b", b.x.removeContextRule(0, 0, 1));
        pair.yes("the one for b a", b.x.removeContextRule(0, 1, 0));
    }

    /** The six rules are for the letters 0 and 5, 1 and 4, and so on; the text is one letter. */
    private static Scene sixRules(int table) {
        return Scene.fresh().with(b -> {
            for (int letter = 0; letter < 6; letter++) {
                b.rule(table, (char) ('a' + letter), (char) ('f' - letter), "fab".substring(letter % 3));
            }
            b.word("abc").text("d");
        });
    }

    private static void kindsOfTables() {
        Sentence one = Sentence.of(0, "A table is deterministic if each of its lists has exactly one production.");
        for (char letter = 'a'; letter <= 'f'; letter++) {
            one.yes("one production", new Bench().list(1, letter, "").x.isDeterministic(1));
            one.no("two equal productions", new Bench().list(1, letter, "a", "a").x.isDeterministic(1));
            one.no("three productions", new Bench().list(1, letter, "a", "b", "c").x.isDeterministic(1));
            one.yes("one again", new Bench().list(1, letter, "a", "b", "c").list(1, letter, "a").x.isDeterministic(1));
        }
        one.yes("a table with rules", sixRules(0).make().x.isDeterministic(0));
        Sentence.of(0, "A table is plain if it has no context rules.")
            .yes("no rule", new Bench().list(2, 'a', "a", "a").x.isPlain(2))
            .no("one rule", new Bench().rule(2, 'a', 'b', "b").x.isPlain(2))
            .no("six rules", sixRules(2).make().x.isPlain(2))
            .no("one of two rules is removed", oneOfTwoRules().x.isPlain(2))
            .yes("the only rule is removed", removed(new Bench().rule(2, 'a', 'b', "b")).x.isPlain(2));
    }

    private static Bench oneOfTwoRules() {
        return removed(new Bench().rule(2, 'a', 'b', "b").rule(2, 'b', 'a', "b"));
    }

    private static Bench removed(Bench b) {
        b.x.removeContextRule(2, 0, 1);
        return b;
    }

    /** The three methods that read a production refuse the same texts. */
    private static void refusesWrongTexts(Sentence sentence, Call call) {
        for (String text : WRONG_TEXTS) {
            sentence.refused("the text " + text, BUSY.with(b -> b.text(text)), Bench.ARGUMENT, call);
        }
        for (String text : new String[] {"", "a", "f", "abcd", "ffff"}) {
            Bench b = BUSY.with(busy -> busy.text(text)).make();
            Object answer = Checks.answerOf(() -> call.on(b.x));
            sentence.no("the text " + text + " is refused", answer.toString().endsWith("Exception"));
        }
    }

    private static void setProduction() {
        Sentence.of(4, TABLE).takes(0, 2, BUSY, Bench.INDEX, (x, table) -> x.setProduction(table, 0));
        Sentence.of(4, LETTER).takes(0, 5, BUSY, Bench.INDEX, (x, letter) -> x.setProduction(0, letter));
        Sentence.of(4, NO_TABLE_OR_LETTER)
            .refusedOutside(0, 2, BUSY, Bench.INDEX, (x, table) -> x.setProduction(table, 5))
            .refusedOutside(0, 5, BUSY, Bench.INDEX, (x, letter) -> x.setProduction(2, letter))
            .refused("neither", BUSY, Bench.INDEX, x -> x.setProduction(3, 6));
        refusesWrongTexts(Sentence.of(4, WRONG_TEXT), x -> x.setProduction(0, 0));
        Sentence one = Sentence.of(4, "Replaces the list of a letter by one production, which is the word that stands in the text.");
        for (int before = 1; before <= 3; before++) {
            String[] list = Arrays.copyOf(new String[] {"abcd", "bcde", "cdef"}, before);
            Bench b = new Bench().list(0, 'f', list).text("e");
            b.x.setProduction(0, 5);
            one.same("productions in place of " + before, b.x.productionCount(0, 5), 1);
            b.both("ff", "ee");
            one.same("ways in place of " + before, b.x.ways(0), 1L);
            one.same("the next number after " + before, b.x.addProduction(0, 5), 1);
        }
        Sentence.of(4, "Returns the length of the production.")
            .same("the shortest", new Bench().text("").x.setProduction(2, 5), 0)
            .same("the longest", new Bench().text("ffff").x.setProduction(2, 5), 4);
    }

    private static void addProduction() {
        Sentence.of(5, TABLE).takes(0, 2, BUSY, Bench.INDEX, (x, table) -> x.addProduction(table, 4));
        Sentence.of(5, LETTER).takes(0, 5, BUSY, Bench.INDEX, (x, letter) -> x.addProduction(1, letter));
        Sentence.of(5, NO_TABLE_OR_LETTER)
            .refusedOutside(0, 2, BUSY, Bench.INDEX, (x, table) -> x.addProduction(table, 5))
            .refusedOutside(0, 5, BUSY, Bench.INDEX, (x, letter) -> x.addProduction(2, letter))
            .refused("neither", BUSY, Bench.INDEX, x -> x.addProduction(-1, -1));
        refusesWrongTexts(Sentence.of(5, WRONG_TEXT), x -> x.addProduction(0, 1));
        Sentence three = Sentence.of(5, "Throws `IllegalStateException` if the list has 3 productions");
        Bench two = BUSY.with(b -> b.list(0, 'd', "a", "bb").text("cccc")).make();
        three.same("the third", two.x.addProduction(0, 3), 2);
        for (String text : new String[] {"", "e", "efef"}) {
            three.refused("the fourth", BUSY.with(b -> b.list(0, 'd', "a", "bb", "ccc").text(text)), Bench.STATE,
                    x -> x.addProduction(0, 3));
        }
        three.refused("the fourth of three that are equal", BUSY.with(b -> b.list(2, 'f', "", "", "")), Bench.STATE,
                x -> x.addProduction(2, 5));
        Bench other = BUSY.with(b -> b.list(0, 'd', "a", "bb", "ccc")).make();
        three.same("another letter's second", other.x.addProduction(0, 4), 1);
        three.same("another table's second", other.x.addProduction(1, 3), 1);
        Sentence.of(5, "Returns the number of the production.")
            .same("the second of a list", new Bench().x.addProduction(0, 0), 1)
            .same("the third of a list", new Bench().list(0, 'a', "", "").x.addProduction(0, 0), 2);
    }

    private static void productionCount() {
        Sentence.of(6, TABLE).takes(0, 2, BUSY, Bench.INDEX, (x, table) -> x.productionCount(table, 0));
        Sentence.of(6, LETTER).takes(0, 5, BUSY, Bench.INDEX, (x, letter) -> x.productionCount(0, letter));
        Sentence.of(6, NO_TABLE_OR_LETTER)
            .refusedOutside(0, 2, BUSY, Bench.INDEX, (x, table) -> x.productionCount(table, 5))
            .refusedOutside(0, 5, BUSY, Bench.INDEX, (x, letter) -> x.productionCount(2, letter));
        Sentence.of(6, "Returns 1 to 3.")
            .same("the fewest", new Bench().list(0, 'a', "").x.productionCount(0, 0), 1)
            .same("two", new Bench().list(0, 'a', "", "").x.productionCount(0, 0), 2)
            .same("the most", new Bench().list(0, 'a', "", "", "").x.productionCount(0, 0), 3);
    }

    private static void setContextRule() {
        Sentence.of(7, TABLE).takes(0, 2, BUSY, Bench.INDEX, (x, table) -> x.setContextRule(table, 0, 0));
        Sentence.of(7, "- `left`: the left letter, 0 to 5")
            .takes(0, 5, BUSY, Bench.INDEX, (x, left) -> x.setContextRule(0, left, 0));
        Sentence.of(7, "- `letter`: the replaced letter, 0 to 5")
            .takes(0, 5, BUSY, Bench.INDEX, (x, letter) -> x.setContextRule(0, 0, letter));
        Sentence.of(7, NO_TABLE_OR_LETTER)
            .refusedOutside(0, 2, BUSY, Bench.INDEX, (x, table) -> x.setContextRule(table, 5, 5))
            .refusedOutside(0, 5, BUSY, Bench.INDEX, (x, left) -> x.setContextRule(2, left, 5))
            .refusedOutside(0, 5, BUSY, Bench.INDEX, (x, letter) -> x.setContextRule(2, 5, letter))
            .refused("a pair that is one in 36", BUSY, Bench.INDEX, x -> x.setContextRule(2, 0, 7));
        Sentence texts = Sentence.of(7, WRONG_TEXT);
        refusesWrongTexts(texts, x -> x.setContextRule(0, 5, 5));
        keepsRuleOnWrongTexts(texts);
        Sentence full = Sentence.of(7, "Throws `IllegalStateException` if there is no rule for these letters and the table has "
                + "6 context rules");
        full.no("the sixth is a replaced one", fiveRules().x.setContextRule(1, 5, 0));
        for (int pair = 0; pair < 36; pair++) {
            int left = pair / 6;
            int letter = pair % 6;
            if (left + letter == 5) {
                full.yes("one of the six is a replaced one", sixRules(1).make().x.setContextRule(1, left, letter));
            } else {
                full.refused("a seventh for " + left + " " + letter, sixRules(1), Bench.STATE,
                        x -> x.setContextRule(1, left, letter));
            }
        }
        full.no("the first of another table is a replaced one", sixRules(1).make().x.setContextRule(0, 0, 0));
        Bench room = sixRules(1).make();
        room.x.removeContextRule(1, 3, 2);
        full.no("a new sixth is a replaced one", room.x.setContextRule(1, 2, 2));
        Sentence.of(7, "Returns whether a rule was replaced.")
            .no("the first rule", new Bench().x.setContextRule(0, 0, 0))
            .yes("the first rule again", new Bench().rule(0, 'a', 'a', "").x.setContextRule(0, 0, 0))
            .no("for the other order", new Bench().rule(0, 'a', 'b', "").x.setContextRule(0, 1, 0))
            .no("for another table", new Bench().rule(0, 'a', 'b', "").x.setContextRule(1, 0, 1));
    }

    /** A rule that is there stays with its production. */
    private static void keepsRuleOnWrongTexts(Sentence sentence) {
        for (String text : WRONG_TEXTS) {
            sentence.refused("a rule that is there, the text " + text, BUSY.with(b -> b.text(text)), Bench.ARGUMENT,
                    x -> x.setContextRule(0, 0, 1));
        }
    }

    private static Bench fiveRules() {
        Bench b = sixRules(1).make();
        b.x.removeContextRule(1, 5, 0);
        return b;
    }

    private static void removeContextRule() {
        Sentence.of(8, TABLE).takes(0, 2, BUSY, Bench.INDEX, (x, table) -> x.removeContextRule(table, 0, 0));
        Sentence.of(8, "- `left`: the left letter, 0 to 5")
            .takes(0, 5, BUSY, Bench.INDEX, (x, left) -> x.removeContextRule(0, left, 0));
        Sentence.of(8, "- `letter`: the replaced letter, 0 to 5")
            .takes(0, 5, BUSY, Bench.INDEX, (x, letter) -> x.removeContextRule(0, 0, letter));
        Sentence.of(8, NO_TABLE_OR_LETTER)
            .refusedOutside(0, 2, BUSY, Bench.INDEX, (x, table) -> x.removeContextRule(table, 0, 1))
            .refusedOutside(0, 5, BUSY, Bench.INDEX, (x, left) -> x.removeContextRule(0, left, 1))
            .refusedOutside(0, 5, BUSY, Bench.INDEX, (x, letter) -> x.removeContextRule(0, 0, letter))
            .refused("a pair that is one in 36", BUSY, Bench.INDEX, x -> x.removeContextRule(2, 2, 9))
            .refused("the same one, from above", BUSY, Bench.INDEX, x -> x.removeContextRule(2, 4, -3));
        Sentence was = Sentence.of(8, "Returns whether there was such a rule.");
        was.no("no rule at all", new Bench().x.removeContextRule(0, 0, 0));
        Bench b = sixRules(2).make();
        for (int pair = 0; pair < 36; pair++) {
            boolean due = pair / 6 + pair % 6 == 5;
            was.same("the pair " + pair, b.x.removeContextRule(2, pair / 6, pair % 6), due);
            was.no("the pair " + pair + " again", b.x.removeContextRule(2, pair / 6, pair % 6));
        }
        was.yes("the table is plain then", b.x.isPlain(2));
    }

    private static void isDeterministic() {
        Sentence.of(9, TABLE).takes(0, 2, BUSY, Bench.INDEX, (x, table) -> x.isDeterministic(table));
        Sentence.of(9, "Throws `IndexOutOfBoundsException` if there is no such table")
            .refusedOutside(0, 2, BUSY, Bench.INDEX, (x, table) -> x.isDeterministic(table));
    }

    private static void isPlain() {
        Sentence.of(10, TABLE).takes(0, 2, BUSY, Bench.INDEX, (x, table) -> x.isPlain(table));
        Sentence.of(10, "Throws `IndexOutOfBoundsException` if there is no such table")
            .refusedOutside(0, 2, BUSY, Bench.INDEX, (x, table) -> x.isPlain(table));
    }
}
