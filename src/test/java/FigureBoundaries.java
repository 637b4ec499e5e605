/**
 * Boundaries of promises 30 to 34 and of what the description says of figures. The letters a to f mean draw, move,
 * left, right, open and close where nothing else is said.
 */
final class FigureBoundaries {
    private static final Scene BUSY = Scene.busy();
    private static final String NO_FIGURE = "Throws `IllegalStateException` if the word has no figure";
    private static final String[] NAMES = {"skip", "draw", "move", "left", "right", "open", "close"};
    private static final String DEEP = "e".repeat(20);
    private static final String[] FIGURELESS =
        {"f", "af", "eff", "eaffa", "efef" + "f", "f" + DEEP, DEEP + "e", DEEP + "ee", DEEP + "fee", "ef" + DEEP + "e",
            DEEP + "f".repeat(20) + "f", "a".repeat(59) + "f"};
    private static final String[] JUST_FIGURES =
        {"", "ef", "eeff", "efef", DEEP, DEEP + "fe", "ef" + DEEP, DEEP + "f".repeat(20), "ef".repeat(30), "e" + "a".repeat(58) + "f"};

    private FigureBoundaries() {
    }

    static void run() {
        commands();
        pen();
        turns();
        openAndClose();
        noFigure();
        sameSegments();
        doubles();
        setCommand();
        segmentCount();
        inkLength();
        extent();
        openDepth();
    }

    private static Bench pen(String word) {
        return new Bench().pen().word(word);
    }

    private static String extents(Bench b) {
        return b.x.extent(0) + " " + b.x.extent(1) + " " + b.x.extent(2) + " " + b.x.extent(3);
    }

    private static void commands() {
        Sentence first = Sentence.of(0, "Each letter has a command: skip, draw, move, left, right, open or close; at first it is skip.");
        Bench b = new Bench().word("abcdef".repeat(10));
        first.same("segments at first", b.x.segmentCount(), 0);
        first.same("extents at first", extents(b), "0.0 0.0 0.0 0.0");
        first.same("depth at first", b.x.openDepth(), 0);
        Bench turn = new Bench().command('f', "draw").word("abcdef");
        first.same("no letter turns at first", extents(turn), "0.0 1.0 0.0 0.0");
        Sentence.of(0, "The current word draws a figure: its letters are carried out from left to right.")
            .same("the empty word", pen("").x.segmentCount(), 0)
            .same("first a turn, then a segment", extents(pen("ca")), "0.0 0.0 0.0 1.0")
            .same("first a segment, then a turn", extents(pen("ac")), "0.0 1.0 0.0 0.0");
    }

    private static void pen() {
        Sentence.of(0, "A pen is at first at the point (0, 0), has the heading 0 and the step length 1.")
            .same("the empty word", extents(pen("")), "0.0 0.0 0.0 0.0")
            .same("one segment", extents(pen("a")), "0.0 1.0 0.0 0.0")
            .same("its ink", pen("a").x.inkLength(), 1.0)
            .same("another figure before", extents(pen("ceb").word("b")), "0.0 1.0 0.0 0.0");
        Bench before = pen("ceb");
        before.x.segmentCount();
        before.word("a");
        Sentence.of(0, "The headings 0, 1, 2 and 3 point in the directions (1, 0), (0, 1), (-1, 0) and (0, -1).")
            .same("heading 0", extents(before), "0.0 1.0 0.0 0.0")
            .same("heading 1", extents(pen("ca")), "0.0 0.0 0.0 1.0")
            .same("heading 2", extents(pen("cca")), "-1.0 0.0 0.0 0.0")
            .same("heading 3", extents(pen("ccca")), "0.0 0.0 -1.0 0.0");
        Sentence.of(0, "The command draw moves the pen by the step length in the direction of the heading and draws the segment "
                + "between both points; move does the same without a segment.")
            .same("60 moves", extents(pen("b".repeat(60))), "0.0 60.0 0.0 0.0")
            .same("segments of 60 moves", pen("b".repeat(60)).x.segmentCount(), 0)
            .same("60 segments", extents(pen("a".repeat(60))), "0.0 60.0 0.0 0.0")
            .same("the shortest step", extents(pen(DEEP + "b")), "0.0 " + 1.0 / (1 << 20) + " 0.0 0.0");
    }

    private static void turns() {
        Sentence turns = Sentence.of(0, "The command left adds 1 to the heading, and right subtracts 1 from it, modulo 4.");
        String[] due = {"0.0 1.0 0.0 0.0", "0.0 0.0 0.0 1.0", "-1.0 0.0 0.0 0.0", "0.0 0.0 -1.0 0.0"};
        for (int count = 0; count <= 58; count++) {
            turns.same(count + " times left", extents(pen("c".repeat(count) + "a")), due[count % 4]);
            turns.same(count + " times right", extents(pen("d".repeat(count) + "a")), due[(60 - count) % 4]);
        }
        turns.same("right, then left", extents(pen("dca")), due[0]);
        turns.same("left to 0, then right", extents(pen("ccccda")), due[3]);
        turns.same("right to 3, then left twice", extents(pen("dcca")), due[1]);
    }

    private static void openAndClose() {
        Sentence.of(0, "The command open remembers the point, the heading and the step length, and halves the step length.")
            .same("one open", pen("ea").x.inkLength(), 0.5)
            .same("20 opens", pen(DEEP + "a").x.inkLength(), 1.0 / (1 << 20))
            .same("the pen stays where it is", extents(pen("bcbe")), "0.0 1.0 0.0 1.0");
        Sentence.of(0, "The command close takes back the point, the heading and the step length that were remembered last, which "
                + "are forgotten then.")
            .same("the point and the length", extents(pen("bebbfb")), "0.0 2.0 0.0 0.0")
            .same("the heading", extents(pen("becfb")), "0.0 2.0 0.0 0.0")
            .same("the last of two", extents(pen("ebecbfb")), "0.0 1.0 0.0 0.25")
            .same("both", extents(pen("ebecbffb")), "0.0 1.0 0.0 0.25")
            .same("20 of them", pen(DEEP + "f".repeat(20) + "a").x.inkLength(), 1.0)
            .same("the place of a forgotten one is free", extents(pen("ebfbcebfb")), "0.0 1.0 0.0 1.0");
    }

    private static void noFigure() {
        Sentence none = Sentence.of(0, "A word has no figure if there is a close with nothing remembered, or if more than 20 things "
                + "are remembered at the same time.");
        for (String word : FIGURELESS) {
            none.same("the word " + word, Checks.answerOf(pen(word).x::segmentCount), "IllegalStateException");
        }
        for (String word : JUST_FIGURES) {
            none.no("the word " + word + " has none", Checks.answerOf(pen(word).x::segmentCount).toString().endsWith("Exception"));
        }
    }

    /** A figure that is not there is refused by each of its methods, at its two boundaries. */
    private static void refusesFigureless(Sentence sentence, Call call) {
        for (String word : FIGURELESS) {
            sentence.refused("the word " + word, BUSY.with(b -> b.word(word)), Bench.STATE, call);
        }
        for (String word : JUST_FIGURES) {
            Bench b = pen(word);
            sentence.no("the word " + word + " is refused", Checks.answerOf(() -> call.on(b.x)).toString().endsWith("Exception"));
        }
        Bench after = pen("f");
        Checks.answerOf(() -> call.on(after.x));
        after.word("a");
        sentence.no("a figure behind none is refused", Checks.answerOf(() -> call.on(after.x)).toString().endsWith("Exception"));
    }

    private static void sameSegments() {
        Sentence.of(0, "Two segments are the same if they have the same two end points, in any order.")
            .same("there and back", pen("acca").x.segmentCount(), 1)
            .same("twice in one direction", pen("accbcca").x.segmentCount(), 1)
            .same("up and back", pen("cacca").x.segmentCount(), 1)
            .same("the same beginning", pen("accbca").x.segmentCount(), 2)
            .same("the same end", pen("acbcca" + "b").x.segmentCount(), 2)
            .same("half of a segment", pen("accbcceaf").x.segmentCount(), 2)
            .same("the other half", pen("aeccaf").x.segmentCount(), 2)
            .same("a square of four", pen("acacacac").x.segmentCount(), 4)
            .same("a square twice, in one direction", pen("acacacac".repeat(2)).x.segmentCount(), 4)
            .same("a square twice, to the right", pen("adadadad".repeat(2)).x.segmentCount(), 4)
            .same("a square and back", pen("acacacac" + "c" + "adadada").x.segmentCount(), 4)
            .same("one above the other", pen("accbdbda").x.segmentCount(), 2)
            .same("one beside the other", pen("cabccbdbda").x.segmentCount(), 2)
            .same("x and y exchanged", pen("accbda").x.segmentCount(), 2)
            .same("60 times the same", pen("e".repeat(1) + "acc".repeat(19)).x.segmentCount(), 1);
    }

    private static void doubles() {
        Sentence.of(0, "All numbers of a figure are of type double.")
            .same("20 and a part that a float does not hold", pen("b".repeat(20) + DEEP + "b").x.extent(1), 20 + 1.0 / (1 << 20))
            .same("ink that a float does not hold", pen("a".repeat(20) + DEEP + "a").x.inkLength(), 20 + 1.0 / (1 << 20))
            .same("two segments that a float does not tell apart",
                pen("b".repeat(16) + DEEP + "baa").x.segmentCount(), 2);
    }

    private static Object set(ParallelRewriting x, int letter) {
        x.setCommand(letter);
        return "set";
    }

    private static void setCommand() {
        Scene named = BUSY.with(b -> b.text("move"));
        Sentence.of(30, "- `letter`: the letter, 0 to 5").takes(0, 5, named, Bench.INDEX, FigureBoundaries::set);
        Sentence.of(30, "Throws `IndexOutOfBoundsException` if there is no such letter")
            .refusedOutside(0, 5, named, Bench.INDEX, FigureBoundaries::set);
        Sentence wrong = Sentence.of(30, "Throws `IllegalArgumentException` if the text is not the name of a command");
        String[] texts = {"", " ", "draw ", " draw", "Draw", "DRAW", "drawn", "dra", "raw", "kip", "skipp", "mov", "moved",
            "lef", "leftt", "righ", "rights", "ope", "opens", "clos", "closed", "closer", "skipdraw", "ace", "d", "?".repeat(60)};
        for (String text : texts) {
            wrong.refused("the text " + text, BUSY.with(b -> b.text(text)), Bench.ARGUMENT, x -> set(x, 0));
        }
        String[] figures = {"0 1 0.0 1.0 0.0 0.0", "0 2 0.0 2.0 0.0 0.0", "0 1 0.0 2.0 0.0 0.0", "0 1 0.0 0.0 0.0 1.0",
            "0 1 0.0 0.0 -1.0 0.0", "1 1 0.0 0.5 0.0 0.0", "IllegalStateException"};
        Sentence names = Sentence.of(30, "Sets the command of a letter to the one whose name is the text: skip, draw, move, left, "
                + "right, open or close.");
        for (int command = 0; command < NAMES.length; command++) {
            for (char letter = 'a'; letter <= 'f'; letter++) {
                char drawing = letter == 'a' ? 'f' : 'a';
                Bench b = BUSY.make().command(drawing, "draw").command(letter, "close").command(letter, NAMES[command]);
                b.word("" + letter + drawing);
                Object got = Checks.answerOf(() -> b.x.openDepth() + " " + b.x.segmentCount() + " " + extents(b));
                names.same(NAMES[command] + " for " + letter, got, figures[command]);
                wrong.same(NAMES[command] + " is a name", got, figures[command]);
            }
        }
    }

    private static void segmentCount() {
        refusesFigureless(Sentence.of(31, NO_FIGURE), x -> x.segmentCount());
        Sentence.of(31, "Returns the number of different segments of the figure of the current word.")
            .same("the empty word", pen("").x.segmentCount(), 0)
            .same("the most", pen("a".repeat(60)).x.segmentCount(), 60)
            .same("60 letters, half of them there and half back", pen("a".repeat(29) + "cc" + "a".repeat(29)).x.segmentCount(), 29)
            .same("after the most", pen("a".repeat(60)).word("a").x.segmentCount(), 1);
    }

    private static void inkLength() {
        refusesFigureless(Sentence.of(32, NO_FIGURE), x -> x.inkLength());
        Sentence.of(32, "Returns the sum of the lengths of the different segments of the figure of the current word.")
            .same("the empty word", pen("").x.inkLength(), 0.0)
            .same("the most", pen("a".repeat(60)).x.inkLength(), 60.0)
            .same("the least", pen(DEEP + "a").x.inkLength(), 1.0 / (1 << 20))
            .same("a segment twice", pen("acca").x.inkLength(), 1.0)
            .same("a half on a whole", pen("aecca").x.inkLength(), 1.5)
            .same("asked twice", inkTwice(), 2.0);
    }

    private static double inkTwice() {
        Bench b = pen("aca");
        b.x.inkLength();
        return b.x.inkLength();
    }

    private static void extent() {
        Scene drawn = BUSY.with(b -> b.word("ac"));
        Call.WithNumber side = (x, number) -> x.extent(number);
        Sentence.of(33, "- `side`: 0 for the lowest x, 1 for the greatest x, 2 for the lowest y, 3 for the greatest y")
            .takes(0, 3, drawn, Bench.ARGUMENT, side)
            .same("the four sides", extents(pen("bcbbcbbbbcbbbbb")), "-3.0 1.0 -3.0 2.0");
        Sentence.of(33, "Throws `IllegalArgumentException` if side is not from 0 to 3")
            .refusedOutside(0, 3, drawn, Bench.ARGUMENT, side);
        Sentence none = Sentence.of(33, NO_FIGURE);
        for (int number = 0; number < 4; number++) {
            int one = number;
            refusesFigureless(none, x -> x.extent(one));
        }
        Sentence.of(33, "Returns an extreme coordinate of all points at which the pen is while the figure of the current word is "
                + "drawn, with the point (0, 0).")
            .same("the empty word", extents(pen("")), "0.0 0.0 0.0 0.0")
            .same("60 to the right", extents(pen("a".repeat(60))), "0.0 60.0 0.0 0.0")
            .same("59 up", extents(pen("c" + "a".repeat(59))), "0.0 0.0 0.0 59.0")
            .same("58 to the left", extents(pen("cc" + "b".repeat(58))), "-58.0 0.0 0.0 0.0")
            .same("59 down", extents(pen("d" + "b".repeat(59))), "0.0 0.0 -59.0 0.0")
            .same("a point that close leaves", extents(pen("ebcbf")), "0.0 0.5 0.0 0.5")
            .same("a point in the middle", extents(pen("bbccbbb")), "-1.0 2.0 0.0 0.0")
            .same("all points are beyond (0, 0)", extents(pen("bcb")), "0.0 1.0 0.0 1.0")
            .same("after a longer word", extents(pen("a".repeat(60)).word("cca")), "-1.0 0.0 0.0 0.0");
    }

    private static void openDepth() {
        refusesFigureless(Sentence.of(34, NO_FIGURE), x -> x.openDepth());
        Sentence.of(34, "Returns 0 to 20.")
            .same("the empty word", pen("").x.openDepth(), 0)
            .same("no open", pen("abcd").x.openDepth(), 0)
            .same("19", pen("e".repeat(19)).x.openDepth(), 19)
            .same("20", pen(DEEP).x.openDepth(), 20);
        Sentence.of(34, "Returns how many things are remembered at most at the same time while the figure of the current word is drawn.")
            .same("30 times one", pen("ef".repeat(30)).x.openDepth(), 1)
            .same("20, then one", pen(DEEP + "f".repeat(20) + "ef").x.openDepth(), 20)
            .same("one, then 20", pen("ef" + DEEP).x.openDepth(), 20)
            .same("20 again and again", pen(DEEP + "fe".repeat(20)).x.openDepth(), 20)
            .same("less than before", pen(DEEP).word("e").x.openDepth(), 1);
    }
}
