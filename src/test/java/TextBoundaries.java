/** Boundaries of promises 1 to 3 and of what the description says of letters, words and the text. */
final class TextBoundaries {
    private static final Scene BUSY = Scene.busy();
    private static final Scene FULL = BUSY.with(b -> b.text("ab".repeat(30)));

    private TextBoundaries() {
    }

    static void run() {
        letters();
        words();
        text();
        newObject();
        appendCharacter();
        clearText();
    }

    private static void letters() {
        Sentence six = Sentence.of(0, "There are 6 letters, a to f, numbered 0 to 5.");
        Bench b = new Bench().word("af");
        six.same("the number of a", b.x.wordLetter(0), 0);
        six.same("the number of f", b.x.wordLetter(1), 5);
        for (int character = 32; character <= 126; character++) {
            Bench one = new Bench().text(String.valueOf((char) character));
            Object due = character >= 'a' && character <= 'f' ? (Object) 1 : "IllegalArgumentException";
            six.same("a word of the character " + character, Checks.answerOf(one.x::setWord), due);
        }
    }

    private static void words() {
        Sentence sixty = Sentence.of(0, "A word has at most 60 letters and may be empty.");
        Bench b = new Bench().list(0, 'a', "aa").list(1, 'a', "");
        sixty.same("the empty word", b.text("").x.setWord(), 0);
        sixty.same("60 letters", b.text("a".repeat(60)).x.setWord(), 60);
        sixty.same("the letters 59 and 0", b.x.wordLetter(59) + b.x.wordLetter(0), 0);
        sixty.same("60 letters become the empty word", b.x.step(1, 0), 0);
        sixty.refused("a step from 60 to 61 letters", BUSY.with(busy -> busy.word("a" + "b".repeat(59)).list(2, 'a', "ac")),
                Bench.STATE, x -> x.step(2, 0));
        Sentence.of(0, "There are a current word and a target word; both are empty at first.")
            .same("the length of the first word", new Bench().x.wordLength(), 0)
            .yes("the first target is empty", new Bench().word("").x.isTarget())
            .no("the first target is a", new Bench().word("a").x.isTarget())
            .yes("the first word is the empty target", new Bench().target("").x.isTarget())
            .no("the first word is a", new Bench().target("a").x.isTarget());
    }

    private static void text() {
        Sentence.of(0, "There is a text of at most 60 characters, which is empty at first.")
            .same("the length of the first text", new Bench().x.clearText(), 0)
            .same("the first word in the text", new Bench().x.setWord(), 0)
            .same("60 characters", new Bench().text("?".repeat(60)).x.clearText(), 60)
            .refused("61 characters", FULL, Bench.STATE, x -> x.appendCharacter('a'));
        Sentence same = Sentence.of(0, "Methods that read the text do not change it.");
        Call[] readers = {
            x -> x.setProduction(0, 0), x -> x.addProduction(1, 0), x -> x.setContextRule(0, 0, 0), x -> x.setWord(),
            x -> x.setTarget(), x -> setCommand(x, 0), x -> x.setProduction(3, 0), x -> x.addProduction(0, 6),
            x -> x.setContextRule(0, -1, 0), x -> setCommand(x, 6)};
        for (String text : new String[] {"", "abc", "draw", "xyz~", "ab".repeat(30), "?".repeat(60)}) {
            for (int reader = 0; reader < readers.length; reader++) {
                Bench b = new Bench().text(text);
                Call call = readers[reader];
                Checks.answerOf(() -> call.on(b.x));
                same.same("the length after reader " + reader + " of " + text, b.x.clearText(), text.length());
                Bench word = new Bench().text("face");
                Checks.answerOf(() -> call.on(word.x));
                word.x.setWord();
                same.same("the text after reader " + reader, word.current(), "face");
            }
        }
    }

    private static Object setCommand(ParallelRewriting x, int letter) {
        x.setCommand(letter);
        return "set";
    }

    private static void newObject() {
        Sentence made = Sentence.of(1, "Creates a workbench with empty words, an empty text, and tables in which each letter "
                + "is replaced by itself.");
        made.same("the length of the word", new Bench().x.wordLength(), 0);
        made.yes("the target is empty too", new Bench().x.isTarget());
        made.same("the length of the text", new Bench().x.clearText(), 0);
        for (int table = 0; table < 3; table++) {
            for (char letter = 'a'; letter <= 'f'; letter++) {
                Bench b = new Bench().word("" + letter + letter);
                made.same("a step of " + letter, b.x.step(table, -1) + b.current(), "2" + letter + letter);
            }
        }
        made.no("there is a step to undo", new Bench().x.undo());
    }

    private static void appendCharacter() {
        Call.WithNumber append = (x, code) -> x.appendCharacter(code);
        Sentence.of(2, "- `character`: the character code, 32 to 126").takes(32, 126, BUSY, Bench.ARGUMENT, append);
        Sentence.of(2, "Throws `IllegalArgumentException` if character is not from 32 to 126")
            .same("the character 32", new Bench().x.appendCharacter(32), 1)
            .same("the character 126", new Bench().x.appendCharacter(126), 1)
            .refusedOutside(32, 126, BUSY, Bench.ARGUMENT, append)
            .refused("a code whose low 16 bits are a letter", BUSY, Bench.ARGUMENT, x -> x.appendCharacter('a' + (1 << 16)))
            .refused("a code whose low 8 bits are a letter", BUSY, Bench.ARGUMENT, x -> x.appendCharacter('a' + 256));
        Sentence full = Sentence.of(2, "Throws `IllegalStateException` if the text has 60 characters");
        full.same("the character number 60", new Bench().text("a".repeat(59)).x.appendCharacter('f'), 60);
        for (int code : new int[] {32, 'a', 126}) {
            full.refused("the character number 61, " + code, FULL, Bench.STATE, x -> x.appendCharacter(code));
        }
        Bench again = FULL.make();
        again.x.clearText();
        full.same("the first character after a full text", again.x.appendCharacter('c'), 1);
        Sentence lengths = Sentence.of(2, "Returns the new length of the text.");
        Bench b = new Bench();
        for (int length = 1; length <= 60; length++) {
            lengths.same("character " + length, b.x.appendCharacter(32 + length), length);
        }
    }

    private static void clearText() {
        Sentence.of(3, "Makes the text empty.")
            .same("a word from what was full", FULL.with(b -> b.x.clearText()).make().x.setWord(), 0)
            .same("a word from what was empty", new Bench().text("").x.setWord(), 0);
        Sentence.of(3, "Returns the length that it had.")
            .same("an empty text", new Bench().x.clearText(), 0)
            .same("one character", new Bench().text("~").x.clearText(), 1)
            .same("a full text", FULL.make().x.clearText(), 60)
            .same("a text that was cleared", FULL.with(b -> b.x.clearText()).make().x.clearText(), 0);
    }
}
