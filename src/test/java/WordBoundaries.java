/** Boundaries of promises 11 to 15. */
final class WordBoundaries {
    private static final Scene BUSY = Scene.busy();
    private static final String WRONG_TEXT =
        "Throws `IllegalArgumentException` if the text contains another character than a to f";
    private static final String[] WRONG_TEXTS =
        {"g", "`", "A", " ", "~", "ab ", " ab", "abgcd", "a".repeat(59) + "g", "`" + "a".repeat(59), "?".repeat(60)};
    private static final String LONGEST = "abcdef".repeat(10);

    private WordBoundaries() {
    }

    static void run() {
        setWord();
        setTarget();
        wordLength();
        wordLetter();
        isTarget();
    }

    private static void setWord() {
        Sentence wrong = Sentence.of(11, WRONG_TEXT);
        for (String text : WRONG_TEXTS) {
            wrong.refused("the text " + text, BUSY.with(b -> b.text(text)), Bench.ARGUMENT, x -> x.setWord());
        }
        for (String text : new String[] {"", "a", "f", "abcdef", LONGEST}) {
            wrong.same("the text " + text, BUSY.with(b -> b.text(text)).make().x.setWord(), text.length());
        }
        Sentence makes = Sentence.of(11, "Makes the word that stands in the text the current word.");
        for (String word : new String[] {LONGEST, "", "f", LONGEST.substring(1), "a"}) {
            makes.same("the word " + word, new Bench().word(LONGEST).word(word).current(), word);
        }
        Sentence.of(11, "Returns the length of the word.")
            .same("the empty word", new Bench().x.setWord(), 0)
            .same("five letters, more than a production has", new Bench().text("abcde").x.setWord(), 5)
            .same("the longest word", new Bench().text(LONGEST).x.setWord(), 60);
    }

    private static void setTarget() {
        Sentence wrong = Sentence.of(12, WRONG_TEXT);
        for (String text : WRONG_TEXTS) {
            wrong.refused("the text " + text, BUSY.with(b -> b.text(text)), Bench.ARGUMENT, x -> x.setTarget());
        }
        for (String text : new String[] {"", "a", "f", "abcdef", LONGEST}) {
            wrong.same("the text " + text, BUSY.with(b -> b.text(text)).make().x.setTarget(), text.length());
        }
        Sentence makes = Sentence.of(12, "Makes the word that stands in the text the target word.");
        for (String word : new String[] {LONGEST, "", "f", LONGEST.substring(1), "a"}) {
            makes.yes("the target " + word, new Bench().target(LONGEST).both(word, word).x.isTarget());
        }
        Sentence.of(12, "Returns the length of the word.")
            .same("the empty word", new Bench().x.setTarget(), 0)
            .same("five letters, more than a production has", new Bench().text("abcde").x.setTarget(), 5)
            .same("the longest word", new Bench().text(LONGEST).x.setTarget(), 60);
    }

    private static void wordLength() {
        Bench fifteen = new Bench().list(0, 'a', "abcd").word("a".repeat(15));
        fifteen.x.step(0, 0);
        Bench gone = new Bench().list(0, 'a', "").word("a".repeat(60));
        gone.x.step(0, 0);
        Sentence.of(13, "Returns 0 to 60.")
            .same("a new word", new Bench().x.wordLength(), 0)
            .same("a word of 60", new Bench().word(LONGEST).x.wordLength(), 60)
            .same("a step to 60", fifteen.x.wordLength(), 60)
            .same("a step from 60 to 0", gone.x.wordLength(), 0);
    }

    private static void wordLetter() {
        Sentence range = Sentence.of(14, "- `position`: the position, from 0");
        range.same("position 0 of one letter", new Bench().word("f").x.wordLetter(0), 5);
        range.refused("position 1 of one letter", BUSY.with(b -> b.word("f")), Bench.INDEX, x -> x.wordLetter(1));
        Sentence six = Sentence.of(14, "Returns the letter, 0 to 5.");
        Bench b = new Bench().word(LONGEST);
        for (int position = 0; position < 60; position++) {
            six.same("position " + position, b.x.wordLetter(position), position % 6);
        }
        Sentence none = Sentence.of(14, "Throws `IndexOutOfBoundsException` if there is no such position");
        for (int length : new int[] {1, 2, 59, 60}) {
            Scene scene = BUSY.with(busy -> busy.word(LONGEST.substring(0, length)));
            none.same("the last position", scene.make().x.wordLetter(length - 1), (length - 1) % 6);
            none.refusedOutside(0, length - 1, scene, Bench.INDEX, (x, position) -> x.wordLetter(position));
        }
        Scene empty = BUSY.with(busy -> busy.word(""));
        none.refused("position 0 of the empty word", empty, Bench.INDEX, x -> x.wordLetter(0));
        none.refused("position -1 of the empty word", empty, Bench.INDEX, x -> x.wordLetter(-1));
        Scene shorter = BUSY.with(busy -> busy.word(LONGEST).word("ab"));
        none.refused("a position of a longer word before", shorter, Bench.INDEX, x -> x.wordLetter(2));
    }

    private static void isTarget() {
        String other = LONGEST.substring(0, 59) + "e";
        Sentence.of(15, "Returns whether the current word and the target word are equal.")
            .yes("two empty words", new Bench().x.isTarget())
            .no("empty and a", new Bench().both("", "a").x.isTarget())
            .no("a and empty", new Bench().both("a", "").x.isTarget())
            .yes("60 letters", new Bench().both(LONGEST, LONGEST).x.isTarget())
            .no("another last letter of 60", new Bench().both(LONGEST, other).x.isTarget())
            .no("another first letter of 60", new Bench().both(LONGEST, "b" + LONGEST.substring(1)).x.isTarget())
            .no("59 letters of 60", new Bench().both(LONGEST.substring(0, 59), LONGEST).x.isTarget())
            .no("60 letters and 59 of them", new Bench().both(LONGEST, LONGEST.substring(0, 59)).x.isTarget())
            .no("a longer word before", new Bench().word(LONGEST).both("ab", "abc").x.isTarget())
            .no("a longer target before", new Bench().target(LONGEST).both("abc", "ab").x.isTarget());
    }
}
