import java.util.List;

/** What the description says of all calls: how many there may be, and what those do that throw. */
final class GeneralBoundaries {
    private static final Scene BUSY = Scene.busy();
    /** Each list of table 0 is full, table 2 has all its rules, and the text is no word. */
    private static final Scene FULL = Scene.fresh().with(b -> {
        b.list(0, 'a', "aa", "aa", "aa").word("a".repeat(60));
        for (char left = 'a'; left <= 'f'; left++) {
            b.rule(2, left, left, "aaaa");
        }
        b.text("?");
    });
    /** All three tables have choices, each of which doubles the word; the word has no figure; the text is too long. */
    private static final Scene WRONG = Scene.fresh().with(b -> b.pen().list(0, 'f', "ff", "ff", "ff").list(1, 'f', "ff", "ff")
        .list(2, 'f', "ff", "ff").rule(1, 'f', 'f', "ff").both("f".repeat(60), "a").text("aaaaa"));
    /** A row of six elements: 0, 0, 1, 0, 2, 0. */
    private static final Scene ROW = Scene.fresh().with(b -> b.pen().word("bb").x.keepPoints(0, false));

    /** A call that is refused for the reason that is named first in the document. */
    private record Refusal(String name, Scene scene, Class<? extends Exception> due, Call call) {
    }

    private GeneralBoundaries() {
    }

    static void run() {
        calls();
        stateStays();
        order();
    }

    private static void calls() {
        Sentence most = Sentence.of(0, "An object is used for at most 512 calls after it has been made; what later calls answer is free.");
        ParallelRewriting x = new ParallelRewriting();
        x.appendCharacter('a');
        x.setWord();
        x.appendCharacter('b');
        x.setProduction(0, 0);
        for (int calls = 4; calls < 500; calls += 4) {
            most.same("a step, then call " + (calls + 1), x.step(0, calls), 2);
            most.yes("undo, then call " + (calls + 2), x.undo());
            most.same("the length, then call " + (calls + 3), x.wordLength(), 1);
            most.same("a refused step, call " + (calls + 4), Checks.answerOf(() -> x.step(3, 0)), "IndexOutOfBoundsException");
        }
        for (int call = 501; call <= 511; call++) {
            most.same("a step, call " + call, x.step(0, 0), call - 499);
        }
        most.same("the call 512", x.lengthAfter(0, 1), 13L);
    }

    /** Refused calls of each method that can refuse, all of them one after the other on one workbench. */
    private static void stateStays() {
        Sentence unchanged = Sentence.of(0, "A call that throws an exception leaves the state unchanged.");
        List<Call> refused = List.of(
            x -> x.appendCharacter(127), x -> x.setProduction(3, 0), x -> x.setProduction(0, 6), x -> x.addProduction(0, -1),
            x -> x.addProduction(0, 0), x -> x.productionCount(-1, 0), x -> x.setContextRule(0, 6, 0),
            x -> x.removeContextRule(0, 0, 6), x -> x.isDeterministic(3), x -> x.isPlain(-1), x -> x.wordLetter(60),
            x -> x.step(3, 0), x -> x.lengthAfter(0, 1), x -> x.lengthAfter(1, 1001), x -> x.countAfter(1, 0, 6),
            x -> x.growthKind(2), x -> x.growthDegree(0), x -> x.recurrenceOrder(0), x -> x.recurrenceCoefficient(1, 7),
            x -> x.isAdult(3), x -> x.stepsToAdult(0, 1), x -> x.stepsToAdult(1, 51), x -> x.adultWords(0, 5), x -> x.ways(3),
            x -> x.sequenceCount(1), x -> x.sequenceCount(6), x -> x.firstSequence(-1), x -> x.firstSequence(2), x -> setCommand(x, 0),
            x -> setCommand(x, 6), x -> x.extent(4), x -> x.keepPoints(2, true), x -> x.remainder(2, 0, 0),
            x -> x.remainder(0, -1, 2), x -> x.remainder(1, 2, 0));
        Bench b = BUSY.make();
        for (int i = 0; i < refused.size(); i++) {
            Call call = refused.get(i);
            unchanged.yes("call " + i + " is refused", Checks.answerOf(() -> call.on(b.x)).toString().endsWith("Exception"));
        }
        unchanged.refused("all of them together", BUSY, Bench.INDEX, x -> {
            refused.forEach(call -> Checks.answerOf(() -> call.on(x)));
            return x.isPlain(3);
        });
        unchanged.refused("calls that are refused for a full list, a full table or a long word", FULL, Bench.STATE, x -> {
            Checks.answerOf(() -> x.addProduction(0, 0));
            Checks.answerOf(() -> x.setContextRule(2, 0, 1));
            Checks.answerOf(() -> x.setWord());
            Checks.answerOf(() -> x.setTarget());
            Checks.answerOf(() -> x.step(2, 0));
            return x.step(0, 0);
        });
    }

    private static Object setCommand(ParallelRewriting x, int letter) {
        x.setCommand(letter);
        return "set";
    }

    private static void order() {
        Sentence listed = Sentence.of(0, "If a method can throw several exceptions, they are checked in the order in which they are listed.");
        for (List<Refusal> some : List.of(orderOfTables(), orderOfSteps(), orderOfLengths(), orderOfWords(), orderOfFigures())) {
            for (Refusal one : some) {
                listed.refused(one.name, one.scene, one.due, one.call);
            }
        }
    }

    private static List<Refusal> orderOfTables() {
        Scene fullText = BUSY.with(b -> b.text("a".repeat(60)));
        Scene allRules = FULL.with(b -> b.text("aaaaa"));
        return List.of(
            new Refusal("a wrong code, a full text", fullText, Bench.ARGUMENT, x -> x.appendCharacter(31)),
            new Refusal("a wrong code above, a full text", fullText, Bench.ARGUMENT, x -> x.appendCharacter(127)),
            new Refusal("setProduction: no table, a wrong text", FULL, Bench.INDEX, x -> x.setProduction(3, 0)),
            new Refusal("setProduction: no letter, a wrong text", FULL, Bench.INDEX, x -> x.setProduction(0, 6)),
            new Refusal("addProduction: no table, a wrong text", FULL, Bench.INDEX, x -> x.addProduction(-1, 0)),
            new Refusal("addProduction: no letter, a wrong text", FULL, Bench.INDEX, x -> x.addProduction(0, -1)),
            new Refusal("addProduction: a wrong text, a full list", FULL, Bench.ARGUMENT, x -> x.addProduction(0, 0)),
            new Refusal("addProduction: a long text, a full list", allRules, Bench.ARGUMENT, x -> x.addProduction(0, 0)),
            new Refusal("setContextRule: no table, a wrong text", FULL, Bench.INDEX, x -> x.setContextRule(3, 0, 1)),
            new Refusal("setContextRule: no left letter, a wrong text, a full table", FULL, Bench.INDEX,
                x -> x.setContextRule(2, 6, 1)),
            new Refusal("setContextRule: no letter, a wrong text, a full table", FULL, Bench.INDEX, x -> x.setContextRule(2, 0, 6)),
            new Refusal("setContextRule: no letter, a full table", FULL.with(b -> b.text("a")), Bench.INDEX,
                x -> x.setContextRule(2, 0, -1)),
            new Refusal("setContextRule: a wrong text, a full table", FULL, Bench.ARGUMENT, x -> x.setContextRule(2, 0, 1)),
            new Refusal("setContextRule: a long text, a full table", allRules, Bench.ARGUMENT, x -> x.setContextRule(2, 0, 1)));
    }

    private static List<Refusal> orderOfSteps() {
        return List.of(
            new Refusal("step: no table, a word that would be too long", FULL, Bench.INDEX, x -> x.step(3, 0)),
            new Refusal("step: no table below, a word that would be too long", FULL, Bench.INDEX, x -> x.step(-1, 0)),
            new Refusal("stepsToAdult: no table, a wrong limit", WRONG, Bench.INDEX, x -> x.stepsToAdult(3, 51)),
            new Refusal("stepsToAdult: a wrong limit, a table with choices", WRONG, Bench.ARGUMENT, x -> x.stepsToAdult(0, 51)),
            new Refusal("stepsToAdult: a wrong limit, no adult word", FULL, Bench.ARGUMENT, x -> x.stepsToAdult(2, -1)),
            new Refusal("stepsToAdult: a table with choices, no adult word", WRONG, Bench.STATE, x -> x.stepsToAdult(0, 50)),
            new Refusal("adultWords: no table, a wrong length", WRONG, Bench.INDEX, x -> x.adultWords(-1, 5)),
            new Refusal("ways: no table", WRONG, Bench.INDEX, x -> x.ways(3)),
            new Refusal("sequenceCount: wrong steps, tables with choices", WRONG, Bench.ARGUMENT, x -> x.sequenceCount(6)),
            new Refusal("firstSequence: wrong steps, tables with choices", WRONG, Bench.ARGUMENT, x -> x.firstSequence(-1)),
            new Refusal("firstSequence: tables with choices, no sequence", WRONG, Bench.STATE, x -> x.firstSequence(0)),
            new Refusal("firstSequence: wrong steps, no sequence", Scene.fresh().with(b -> b.target("a")), Bench.ARGUMENT,
                x -> x.firstSequence(6)));
    }

    private static List<Refusal> orderOfLengths() {
        Scene grows = Scene.fresh().with(b -> b.list(0, 'a', "aa").word("a"));
        return List.of(
            new Refusal("lengthAfter: no table, wrong steps", WRONG, Bench.INDEX, x -> x.lengthAfter(3, 1001)),
            new Refusal("lengthAfter: wrong steps, a table with choices", WRONG, Bench.ARGUMENT, x -> x.lengthAfter(0, -1)),
            new Refusal("lengthAfter: wrong steps, too many letters", grows, Bench.ARGUMENT, x -> x.lengthAfter(0, 1001)),
            new Refusal("lengthAfter: a table with choices, too many letters", WRONG, Bench.STATE, x -> x.lengthAfter(0, 1000)),
            new Refusal("lengthAfter: a table with rules, too many letters", grows.with(b -> b.rule(0, 'b', 'b', "")), Bench.STATE,
                x -> x.lengthAfter(0, 1000)),
            new Refusal("countAfter: no table, wrong steps", WRONG, Bench.INDEX, x -> x.countAfter(3, 1001, 0)),
            new Refusal("countAfter: no letter, wrong steps", WRONG, Bench.INDEX, x -> x.countAfter(0, 1001, 6)),
            new Refusal("countAfter: no letter, a table with choices", WRONG, Bench.INDEX, x -> x.countAfter(0, 1000, -1)),
            new Refusal("countAfter: no letter, too many letters", grows, Bench.INDEX, x -> x.countAfter(0, 1000, 6)),
            new Refusal("countAfter: wrong steps, a table with choices", WRONG, Bench.ARGUMENT, x -> x.countAfter(0, 1001, 0)),
            new Refusal("countAfter: wrong steps, too many letters", grows, Bench.ARGUMENT, x -> x.countAfter(0, 1001, 0)),
            new Refusal("countAfter: a table with choices, too many letters", WRONG, Bench.STATE, x -> x.countAfter(0, 1000, 0)),
            new Refusal("growthKind: no table", WRONG, Bench.INDEX, x -> x.growthKind(3)),
            new Refusal("growthDegree: no table", WRONG, Bench.INDEX, x -> x.growthDegree(3)),
            new Refusal("growthDegree: a table with choices, kind 3", WRONG, Bench.STATE, x -> x.growthDegree(0)),
            new Refusal("growthDegree: a table with rules, kind 3", grows.with(b -> b.rule(0, 'b', 'b', "")), Bench.STATE,
                x -> x.growthDegree(0)));
    }

    private static List<Refusal> orderOfWords() {
        return List.of(
            new Refusal("recurrenceOrder: no table", WRONG, Bench.INDEX, x -> x.recurrenceOrder(-1)),
            new Refusal("recurrenceCoefficient: no table, a wrong number", WRONG, Bench.INDEX, x -> x.recurrenceCoefficient(3, 0)),
            new Refusal("recurrenceCoefficient: a table with choices, a wrong number", WRONG, Bench.STATE,
                x -> x.recurrenceCoefficient(0, 0)),
            new Refusal("recurrenceCoefficient: a table with rules, a wrong number", FULL, Bench.STATE,
                x -> x.recurrenceCoefficient(2, 7)));
    }

    private static List<Refusal> orderOfFigures() {
        return List.of(
            new Refusal("setCommand: no letter, a wrong text", WRONG, Bench.INDEX, x -> setCommand(x, 6)),
            new Refusal("extent: a wrong side, no figure", WRONG, Bench.ARGUMENT, x -> x.extent(4)),
            new Refusal("keepPoints: no row, no figure", WRONG, Bench.INDEX, x -> x.keepPoints(2, true)),
            new Refusal("remainder: no row, no index", WRONG, Bench.ARGUMENT, x -> x.remainder(2, -1, -1)),
            new Refusal("remainder: a missing row, no index", ROW, Bench.STATE, x -> x.remainder(1, 6, 6)),
            new Refusal("remainder: a missing row, a divisor that would be 0", ROW, Bench.STATE, x -> x.remainder(1, 0, 0)),
            new Refusal("remainder: no dividend, the divisor is 0", ROW, Bench.INDEX, x -> x.remainder(0, 6, 0)),
            new Refusal("remainder: no dividend below, the divisor is 0", ROW, Bench.INDEX, x -> x.remainder(0, -1, 1)),
            new Refusal("remainder: no divisor", ROW, Bench.INDEX, x -> x.remainder(0, 0, 6)));
    }
}
