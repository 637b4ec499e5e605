/** Promises 11 to 15. */
final class WordTest {
    public static void main(String[] args) {
        setsWords();
        refusesOtherTexts();
        readsLetters();
        comparesWithTarget();
        Checks.finish();
    }

    private static void setsWords() {
        Bench b = new Bench();
        Checks.same("setWord", b.text("abcdef").x.setWord(), 6);
        Checks.same("wordLength", b.x.wordLength(), 6);
        Checks.same("the word", b.current(), "abcdef");
        Checks.same("the text stays", b.x.setTarget(), 6);
        Checks.same("empty word", b.text("").x.setWord(), 0);
        Checks.same("empty length", b.x.wordLength(), 0);
        Checks.same("empty target", b.x.setTarget(), 0);
        String longest = "abcdef".repeat(10);
        Checks.same("longest word", b.text(longest).x.setWord(), 60);
        Checks.same("longest letters", b.current(), longest);
        Checks.same("longest target", b.x.setTarget(), 60);
        Checks.yes("longest words are equal", b.x.isTarget());
    }

    private static void refusesOtherTexts() {
        Bench b = new Bench().both("ab", "ab");
        for (String wrong : new String[] {"g", "aBc", " ab", "ab ", "`", "{"}) {
            b.text(wrong);
            Checks.throwing("setWord " + wrong, Bench.ARGUMENT, b.x::setWord);
            Checks.throwing("setTarget " + wrong, Bench.ARGUMENT, b.x::setTarget);
        }
        Checks.same("the word stays", b.current(), "ab");
        Checks.yes("the target stays", b.x.isTarget());
    }

    private static void readsLetters() {
        Bench b = new Bench().word("fab");
        Checks.same("letter 0", b.x.wordLetter(0), 5);
        Checks.same("letter 1", b.x.wordLetter(1), 0);
        Checks.same("letter 2", b.x.wordLetter(2), 1);
        for (int wrong : new int[] {-1, 3, 59, 60, Integer.MIN_VALUE, Integer.MAX_VALUE}) {
            Checks.throwing("letter " + wrong, Bench.INDEX, () -> b.x.wordLetter(wrong));
        }
        Checks.throwing("letter of the empty word", Bench.INDEX, () -> new ParallelRewriting().wordLetter(0));
    }

    private static void comparesWithTarget() {
        Bench b = new Bench();
        Checks.yes("both empty", b.x.isTarget());
        Checks.no("word longer", b.word("a").x.isTarget());
        Checks.yes("equal", b.target("a").x.isTarget());
        Checks.no("target longer", b.target("ab").x.isTarget());
        Checks.no("another letter", b.both("abc", "abd").x.isTarget());
        Checks.no("another first letter", b.both("abc", "bbc").x.isTarget());
        Checks.no("a shorter word after a longer one", b.both("ab", "abc").x.isTarget());
    }
}
