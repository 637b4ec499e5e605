/** Promises 1 and 4 to 10. */
final class TableTest {
    public static void main(String[] args) {
        newObject();
        setsProductions();
        addsProductions();
        contextRules();
        limitsContextRules();
        determinismAndPlainness();
        refusesWrongTablesAndLetters();
        refusesWrongTexts();
        Checks.finish();
    }

    private static void newObject() {
        Bench b = new Bench();
        Checks.same("new word", b.x.wordLength(), 0);
        Checks.yes("new target", b.x.isTarget());
        Checks.same("new text", b.x.clearText(), 0);
        b.word("abcdef");
        for (int table = 0; table < 3; table++) {
            Checks.yes("new table is plain", b.x.isPlain(table));
            Checks.yes("new table is deterministic", b.x.isDeterministic(table));
            for (int letter = 0; letter < 6; letter++) {
                Checks.same("new list", b.x.productionCount(table, letter), 1);
            }
            b.x.step(table, 7);
            Checks.same("step of a new table", b.current(), "abcdef");
        }
        Checks.same("new commands", b.x.segmentCount() + b.x.openDepth(), 0);
        Checks.throwing("new row 0", Bench.STATE, () -> b.x.remainder(0, 0, 0));
        Checks.throwing("new row 1", Bench.STATE, () -> b.x.remainder(1, 0, 0));
        Checks.throwing("nothing saved", Bench.STATE, () -> {
            b.x.restore();
            return 0;
        });
        Checks.no("nothing to undo", new ParallelRewriting().undo());
    }

    private static void setsProductions() {
        Bench b = new Bench();
        Checks.same("production of 4", b.text("abcf").x.setProduction(2, 1), 4);
        Checks.same("production of 0", b.text("").x.setProduction(2, 0), 0);
        b.word("bab").x.step(2, 0);
        Checks.same("step with both", b.current(), "abcfabcf");
        b.word("ba").x.step(1, 0);
        Checks.same("other tables stay", b.current(), "ba");
        b.list(0, 'a', "b", "c", "d");
        Checks.same("list of 3", b.x.productionCount(0, 0), 3);
        Checks.same("replace a list", b.text("ee").x.setProduction(0, 0), 2);
        Checks.same("replaced list", b.x.productionCount(0, 0), 1);
        Checks.same("the text stays", b.x.clearText(), 2);
        b.word("aa").x.step(0, 99);
        Checks.same("step with a replaced list", b.current(), "eeee");
        Bench full = new Bench().list(0, 'b', "fedc").list(0, 'a', "abcd", "bcde", "cdef");
        full.text("ffff").x.setProduction(0, 0);
        Checks.same("a production leaves the next ones alone", full.both("bbb", "fedcfedcfedc").x.ways(0), 1L);
    }

    private static void addsProductions() {
        Bench b = new Bench();
        Checks.same("add one", b.text("bb").x.addProduction(1, 5), 1);
        Checks.same("add an equal one", b.x.addProduction(1, 5), 2);
        Checks.throwing("add a fourth", Bench.STATE, () -> b.x.addProduction(1, 5));
        Checks.same("three are there", b.x.productionCount(1, 5), 3);
        Checks.same("two stay for others", b.x.productionCount(1, 4) + b.x.productionCount(0, 5), 2);
        Checks.same("ways with equal productions", b.both("f", "bb").x.ways(1), 2L);
        Checks.same("ways of the first production", b.both("f", "f").x.ways(1), 1L);
        b.text("bbbbb");
        Checks.throwing("a wrong text comes before a full list", Bench.ARGUMENT, () -> b.x.addProduction(1, 5));
    }

    private static void contextRules() {
        Bench b = new Bench();
        Checks.no("a new rule", b.text("cd").x.setContextRule(0, 0, 1));
        Checks.yes("a replaced rule", b.text("ef").x.setContextRule(0, 0, 1));
        Checks.no("the other order is another rule", b.text("").x.setContextRule(0, 1, 0));
        b.word("abba").x.step(0, 0);
        Checks.same("step with context", b.current(), "aefb");
        Checks.yes("remove a rule", b.x.removeContextRule(0, 1, 0));
        Checks.no("remove it again", b.x.removeContextRule(0, 1, 0));
        Checks.no("remove from another table", b.x.removeContextRule(1, 0, 1));
        b.word("abba").x.step(0, 0);
        Checks.same("step after removal", b.current(), "aefba");
        Checks.no("still not plain", b.x.isPlain(0));
        b.x.removeContextRule(0, 0, 1);
        Checks.yes("plain again", b.x.isPlain(0));
    }

    private static void limitsContextRules() {
        Bench b = new Bench();
        for (int letter = 0; letter < 6; letter++) {
            Checks.no("rule " + letter, b.text("a").x.setContextRule(2, 5, letter));
        }
        Checks.throwing("a seventh rule", Bench.STATE, () -> b.x.setContextRule(2, 4, 0));
        Checks.yes("replace when full", b.x.setContextRule(2, 5, 0));
        Checks.no("another table is not full", b.x.setContextRule(1, 4, 0));
        b.text("z");
        Checks.throwing("a wrong text comes before a full table", Bench.ARGUMENT, () -> b.x.setContextRule(2, 4, 0));
        Checks.throwing("so it does for a rule that is there", Bench.ARGUMENT, () -> b.x.setContextRule(2, 5, 0));
        Checks.yes("remove one of six", b.x.removeContextRule(2, 5, 3));
        Checks.no("there is room again", b.text("").x.setContextRule(2, 4, 0));
        Checks.throwing("and no more", Bench.STATE, () -> b.x.setContextRule(2, 5, 3));
    }

    private static void determinismAndPlainness() {
        Bench b = new Bench().list(1, 'f', "a", "a").rule(2, 'a', 'a', "");
        Checks.yes("table 0 deterministic", b.x.isDeterministic(0));
        Checks.no("table 1 deterministic", b.x.isDeterministic(1));
        Checks.yes("table 2 deterministic", b.x.isDeterministic(2));
        Checks.yes("table 0 plain", b.x.isPlain(0));
        Checks.yes("table 1 plain", b.x.isPlain(1));
        Checks.no("table 2 plain", b.x.isPlain(2));
        b.text("ff").x.setProduction(1, 5);
        Checks.yes("table 1 deterministic again", b.x.isDeterministic(1));
        for (char letter = 'a'; letter <= 'f'; letter++) {
            Checks.no("choices for " + letter, new Bench().list(0, letter, "a", "a", "a").x.isDeterministic(0));
        }
    }

    private static void refusesWrongTablesAndLetters() {
        Bench b = new Bench().text("not a word");
        for (int wrong : new int[] {-1, 6, Integer.MIN_VALUE, Integer.MAX_VALUE}) {
            Checks.throwing("setProduction letter", Bench.INDEX, () -> b.x.setProduction(0, wrong));
            Checks.throwing("addProduction letter", Bench.INDEX, () -> b.x.addProduction(0, wrong));
            Checks.throwing("productionCount letter", Bench.INDEX, () -> b.x.productionCount(0, wrong));
            Checks.throwing("setContextRule left", Bench.INDEX, () -> b.x.setContextRule(0, wrong, 0));
            Checks.throwing("setContextRule letter", Bench.INDEX, () -> b.x.setContextRule(0, 0, wrong));
            Checks.throwing("removeContextRule left", Bench.INDEX, () -> b.x.removeContextRule(0, wrong, 0));
            Checks.throwing("removeContextRule letter", Bench.INDEX, () -> b.x.removeContextRule(0, 0, wrong));
        }
        for (int wrong : new int[] {-1, 3, Integer.MIN_VALUE, Integer.MAX_VALUE}) {
            Checks.throwing("setProduction table", Bench.INDEX, () -> b.x.setProduction(wrong, 0));
            Checks.throwing("addProduction table", Bench.INDEX, () -> b.x.addProduction(wrong, 0));
            Checks.throwing("productionCount table", Bench.INDEX, () -> b.x.productionCount(wrong, 0));
            Checks.throwing("setContextRule table", Bench.INDEX, () -> b.x.setContextRule(wrong, 0, 0));
            Checks.throwing("removeContextRule table", Bench.INDEX, () -> b.x.removeContextRule(wrong, 0, 0));
            Checks.throwing("isDeterministic table", Bench.INDEX, () -> b.x.isDeterministic(wrong));
            Checks.throwing("isPlain table", Bench.INDEX, () -> b.x.isPlain(wrong));
        }
    }

    private static void refusesWrongTexts() {
        Bench b = new Bench().list(0, 'a', "bc").rule(1, 'a', 'b', "cc");
        for (String wrong : new String[] {"g", "abg", "A", " ", "`", "a a", "abcde", "aaaaa"}) {
            b.text(wrong);
            Checks.throwing("setProduction " + wrong, Bench.ARGUMENT, () -> b.x.setProduction(0, 0));
            Checks.throwing("addProduction " + wrong, Bench.ARGUMENT, () -> b.x.addProduction(0, 0));
            Checks.throwing("setContextRule " + wrong, Bench.ARGUMENT, () -> b.x.setContextRule(1, 0, 1));
        }
        Checks.same("the list stays", b.x.productionCount(0, 0), 1);
        b.word("a").x.step(0, 0);
        Checks.same("the production stays", b.current(), "bc");
        b.word("ab").x.step(1, 0);
        Checks.same("the rule stays", b.current(), "acc");
    }
}
