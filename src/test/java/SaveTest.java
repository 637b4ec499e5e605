/** Promises 37 and 38. */
final class SaveTest {
    public static void main(String[] args) {
        savesAll();
        savesLettersAndRules();
        keepsWhatIsNotSaved();
        savesAgain();
        refuses();
        Checks.finish();
    }

    private static void savesAll() {
        Bench b = new Bench().list(0, 'a', "b", "cc").list(2, 'f', "").rule(1, 'a', 'b', "ff").pen();
        b.both("abff", "aff");
        b.x.save();
        b.list(0, 'a', "a").list(2, 'f', "f").rule(1, 'a', 'b', "").rule(1, 'c', 'c', "c").list(1, 'd', "", "");
        b.command('a', "skip").both("c", "d");
        for (int again = 0; again < 2; again++) {
            b.x.restore();
            Checks.same("word", b.current(), "abff");
            Checks.same("list", b.x.productionCount(0, 0), 2);
            Checks.same("list of another table", b.x.productionCount(1, 3), 1);
            Checks.same("ways to the target by an empty production", b.x.ways(2), 0L);
            Checks.no("rules", b.x.isPlain(1));
            b.x.step(1, 0);
            Checks.same("step with the rule", b.current(), "affff");
            Checks.no("the second rule is gone", b.x.removeContextRule(1, 2, 2));
            Checks.same("commands", b.word("ab").x.segmentCount(), 1);
            Checks.yes("target", b.word("aff").x.isTarget());
            b.x.step(2, 0);
            Checks.same("step of table 2", b.current(), "a");
            b.list(2, 'f', "fff").target("").command('a', "close");
        }
    }

    private static void savesLettersAndRules() {
        Bench b = new Bench().list(0, 'a', "fe").rule(0, 'f', 'f', "ab").both("aff", "bbfdd");
        b.x.save();
        b.list(0, 'a', "bb").rule(0, 'f', 'f', "dd");
        for (char letter = 'a'; letter <= 'e'; letter++) {
            b.rule(0, 'a', letter, "");
        }
        b.x.restore();
        Checks.same("letters of productions and rules", b.x.ways(0), 0L);
        Checks.same("letters of the same", b.target("fefab").x.ways(0), 1L);
        for (char letter = 'a'; letter <= 'e'; letter++) {
            b.rule(0, 'b', letter, "");
        }
        b.text("");
        Checks.throwing("six rules again", Bench.STATE, () -> b.x.setContextRule(0, 0, 0));
    }

    private static void keepsWhatIsNotSaved() {
        Bench b = new Bench().pen().word("aa");
        b.x.keepPoints(0, false);
        b.x.save();
        b.word("aaa").x.keepPoints(0, false);
        b.x.keepPoints(1, true);
        b.text("xyz");
        b.x.restore();
        Checks.same("the text stays", b.x.clearText(), 3);
        Checks.same("row 0 stays", b.x.remainder(0, 6, 4), 1.0);
        Checks.same("row 1 stays", b.x.remainder(1, 6, 4), 1.0);
    }

    private static void savesAgain() {
        Bench b = new Bench().word("a");
        b.x.save();
        b.word("b").x.save();
        b.word("c").x.restore();
        Checks.same("the last one saved", b.current(), "b");
        b.list(0, 'b', "bb").x.step(0, 0);
        b.x.restore();
        Checks.same("what is saved does not change", b.current(), "b");
        Checks.no("restore forgets the steps", b.x.undo());
        b.x.step(0, 0);
        Checks.same("the tables are those that were saved", b.current(), "b");
    }

    private static void refuses() {
        Bench b = new Bench().list(0, 'a', "ab").word("a");
        b.x.step(0, 0);
        Checks.throwing("nothing saved", Bench.STATE, () -> {
            b.x.restore();
            return 0;
        });
        Checks.same("the word stays", b.current(), "ab");
        Checks.yes("the steps stay", b.x.undo());
    }
}
