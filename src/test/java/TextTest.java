/** Promises 2 and 3. */
final class TextTest {
    public static void main(String[] args) {
        appendsWhatCanBePrinted();
        refusesOtherCodes();
        refusesMoreThanSixty();
        clears();
        Checks.finish();
    }

    private static void appendsWhatCanBePrinted() {
        ParallelRewriting x = new ParallelRewriting();
        Checks.same("append 32", x.appendCharacter(32), 1);
        Checks.same("append 126", x.appendCharacter(126), 2);
        Checks.same("append a", x.appendCharacter('a'), 3);
    }

    private static void refusesOtherCodes() {
        ParallelRewriting x = new ParallelRewriting();
        int[] codes = {31, 127, 0, -1, 97 + 65536, Integer.MIN_VALUE, Integer.MAX_VALUE};
        for (int code : codes) {
            Checks.throwing("append " + code, Bench.ARGUMENT, () -> x.appendCharacter(code));
        }
        Checks.same("length after refusals", x.clearText(), 0);
    }

    private static void refusesMoreThanSixty() {
        ParallelRewriting x = new ParallelRewriting();
        for (int i = 1; i <= 60; i++) {
            Checks.same("append number " + i, x.appendCharacter('b'), i);
        }
        Checks.throwing("append to a full text", Bench.STATE, () -> x.appendCharacter('b'));
        Checks.throwing("a wrong code comes before a full text", Bench.ARGUMENT, () -> x.appendCharacter(10));
        Checks.same("a full text is a word", x.setWord(), 60);
        Checks.same("clear a full text", x.clearText(), 60);
    }

    private static void clears() {
        ParallelRewriting x = new ParallelRewriting();
        Checks.same("clear an empty text", x.clearText(), 0);
        x.appendCharacter('a');
        x.appendCharacter('b');
        Checks.same("clear two characters", x.clearText(), 2);
        Checks.same("clear again", x.clearText(), 0);
        Checks.same("append after clear", x.appendCharacter('c'), 1);
        Checks.same("the text after clear", x.setWord() + 10 * x.wordLetter(0), 21);
    }
}
