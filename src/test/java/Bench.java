import java.util.ArrayList;
import java.util.List;

/** Puts whole words into a workbench, whose face takes them a character at a time. */
final class Bench {
    static final Class<IndexOutOfBoundsException> INDEX = IndexOutOfBoundsException.class;
    static final Class<IllegalArgumentException> ARGUMENT = IllegalArgumentException.class;
    static final Class<IllegalStateException> STATE = IllegalStateException.class;
    static final Class<ArithmeticException> ARITHMETIC = ArithmeticException.class;
    static final Class<java.util.NoSuchElementException> MISSING = java.util.NoSuchElementException.class;

    final ParallelRewriting x = new ParallelRewriting();

    /** The words that were the target, for a look at which one it is. */
    final List<String> targets = new ArrayList<>();

    Bench text(String text) {
        x.clearText();
        for (int i = 0; i < text.length(); i++) {
            x.appendCharacter(text.charAt(i));
        }
        return this;
    }

    Bench word(String word) {
        text(word).x.setWord();
        return this;
    }

    Bench target(String word) {
        text(word).x.setTarget();
        targets.add(word);
        return this;
    }

    Bench both(String word, String target) {
        return word(word).target(target);
    }

    /** Replaces the list of a letter by one or more productions. */
    Bench list(int table, char letter, String... productions) {
        text(productions[0]).x.setProduction(table, letter - 'a');
        for (int i = 1; i < productions.length; i++) {
            text(productions[i]).x.addProduction(table, letter - 'a');
        }
        return this;
    }

    Bench rule(int table, char left, char letter, String production) {
        text(production).x.setContextRule(table, left - 'a', letter - 'a');
        return this;
    }

    Bench command(char letter, String name) {
        text(name).x.setCommand(letter - 'a');
        return this;
    }

    /** The letters a to f mean draw, move, left, right, open and close. */
    Bench pen() {
        return command('a', "draw").command('b', "move").command('c', "left")
                .command('d', "right").command('e', "open").command('f', "close");
    }

    String current() {
        StringBuilder word = new StringBuilder();
        int length = x.wordLength();
        for (int i = 0; i < length; i++) {
            word.append((char) ('a' + x.wordLetter(i)));
        }
        return word.toString();
    }
}
