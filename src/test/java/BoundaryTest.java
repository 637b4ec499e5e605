import java.util.List;
import java.util.Set;

/**
 * The boundaries of all promises: each check names the promise's number and the document's sentence. A sentence of
 * the document is shown here, or it stands below among those that name no boundary.
 */
final class BoundaryTest {
    /** Each with the number of its promise; the tests of the promises' groups show them. */
    private static final Set<String> NO_BOUNDARY = Set.of(
        "0 A workbench for parallel word rewriting (deterministic and nondeterministic L systems with tables "
            + "and left context): steps, growth of lengths, recurrences, adult words, numbers of derivations, and "
            + "figures drawn by words.",
        "0 The class is not thread-safe.",
        "0 The constructor and the methods follow, a promise each: the signature, then what it does.",
        "0 How the state is held inside the object is free, as are the speed of each call, the text of "
            + "toString and the behaviour of equals and hashCode.",
        "0 Use of one object from several threads at once is not promised to be safe.",
        "0 Nothing is promised beyond the answers and state changes described above, and nothing about an "
            + "object after its 512th call.",
        "2 Appends a character to the text.",
        "5 Appends a production, which is the word that stands in the text, to the list of a letter.",
        "6 Returns the number of productions of a letter.",
        "7 Adds a context rule whose production is the word that stands in the text, or replaces the "
            + "production of the context rule for the same two letters.",
        "8 Removes a context rule.",
        "9 Returns whether a table is deterministic.",
        "9 Returns whether it is.",
        "10 Returns whether a table is plain.",
        "10 Returns whether it is.",
        "13 Returns the length of the current word.",
        "14 Returns a letter of the current word.",
        "15 Returns whether they are equal.",
        "16 Makes a step of the current word.",
        "16 The choices are pseudorandom.",
        "16 A value x starts as the seed.",
        "18 Returns the length of the word after a number of steps.",
        "18 Returns the length.",
        "19 Returns how often a letter occurs in the word after a number of steps.",
        "19 Returns the number of occurrences.",
        "20 Returns the kind of growth of the current word.",
        "21 Returns the degree of the growth of the current word.",
        "22 Returns the order of the sequence of lengths.",
        "23 These numbers are determined by the sequence.",
        "24 Returns whether the current word is adult for a table.",
        "24 Returns whether it is.",
        "26 Returns the number of words.",
        "31 Returns the number of segments.",
        "32 Returns the sum.",
        "33 Returns the coordinate.",
        "36 Returns the remainder.");

    public static void main(String[] args) {
        GeneralBoundaries.run();
        TextBoundaries.run();
        TableBoundaries.run();
        WordBoundaries.run();
        StepBoundaries.run();
        GrowthBoundaries.run();
        RecurrenceBoundaries.run();
        AdultBoundaries.run();
        DerivationBoundaries.run();
        FigureBoundaries.run();
        RowBoundaries.run();
        SaveBoundaries.run();
        List<String> left = Sentence.notShown();
        for (String sentence : left) {
            Checks.yes("a test shows: " + sentence, namesNoBoundary(sentence));
        }
        for (String sentence : NO_BOUNDARY) {
            Checks.yes("no test shows, and the document has: " + sentence, left.contains(sentence));
        }
        System.out.println(Sentence.shown() + " sentences of the document are shown at their boundaries");
        Checks.finish();
    }

    /** The signatures, which FaceTest looks at, and the one word that begins a part of the description. */
    private static boolean namesNoBoundary(String sentence) {
        return NO_BOUNDARY.contains(sentence) || sentence.matches("\\d+ `[^`]*`") || sentence.matches("0 [A-Z]\\w+( words)?\\.");
    }
}
