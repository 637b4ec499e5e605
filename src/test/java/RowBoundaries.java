/** Boundaries of promises 35 and 36 and of what the description says of rows. The pen is that of FigureBoundaries. */
final class RowBoundaries {
    private static final Scene BUSY = Scene.busy();
    private static final double PART = 1.0 / (1 << 20);
    private static final String DEEP = "e".repeat(20);

    private RowBoundaries() {
    }

    static void run() {
        rows();
        keepPoints();
        elements();
        floats();
        remainder();
        missingRows();
        indexes();
        signs();
        divisors();
    }

    private static Bench kept(String word, int row, boolean single) {
        Bench b = new Bench().pen().word(word);
        b.x.keepPoints(row, single);
        return b;
    }

    private static void rows() {
        Sentence two = Sentence.of(0, "There are 2 rows of numbers, numbered 0 and 1, which are missing at first.");
        for (int row = 0; row < 2; row++) {
            int one = row;
            two.refused("row " + row + " at first", Scene.fresh(), Bench.STATE, x -> x.remainder(one, 0, 0));
            two.same("row " + row, kept("bbb", row, false).x.remainder(row, 6, 4), 1.0);
            Bench b = kept("bbb", row, false);
            two.same("the other row", Checks.answerOf(() -> b.x.remainder(1 - one, 6, 4)), "IllegalStateException");
        }
        two.refused("row -1", BUSY, Bench.INDEX, x -> x.keepPoints(-1, false));
        two.refused("row 2", BUSY, Bench.INDEX, x -> x.keepPoints(2, false));
        String word = "b".repeat(16) + DEEP + "b";
        Sentence.of(0, "A row has elements of type float or of type double.")
            .same("16 and a part as a float", kept(word, 0, true).x.remainder(0, 74, 2), 0.0)
            .same("16 and a part as a double", kept(word, 0, false).x.remainder(0, 74, 2), PART);
    }

    private static void keepPoints() {
        Scene drawn = BUSY.with(b -> b.word("ac"));
        Sentence.of(35, "- `row`: the row, 0 or 1").takes(0, 1, drawn, Bench.INDEX, (x, row) -> x.keepPoints(row, true));
        Sentence.of(35, "Throws `IndexOutOfBoundsException` if there is no such row")
            .refusedOutside(0, 1, drawn, Bench.INDEX, (x, row) -> x.keepPoints(row, false))
            .refusedOutside(0, 1, Scene.fresh(), Bench.INDEX, (x, row) -> x.keepPoints(row, true));
        Sentence none = Sentence.of(35, "Throws `IllegalStateException` if the word has no figure");
        for (String word : new String[] {"f", "aaaf", "eff", DEEP + "e", DEEP + "fee", "a".repeat(59) + "f"}) {
            for (int row = 0; row < 2; row++) {
                int one = row;
                none.refused("the word " + word + " as floats", BUSY.with(b -> b.word(word)), Bench.STATE,
                        x -> x.keepPoints(one, true));
                none.refused("the word " + word + " as doubles", BUSY.with(b -> b.word(word)), Bench.STATE,
                        x -> x.keepPoints(one, false));
            }
        }
        none.refused("a row that is missing stays so", Scene.fresh().with(b -> b.pen().word("af")), Bench.STATE,
                x -> x.keepPoints(0, false));
        none.same("20 things", new Bench().pen().word(DEEP).x.keepPoints(0, false), 42);
        Sentence.of(35, "Returns the number of elements.")
            .same("the empty word", new Bench().x.keepPoints(0, true), 2)
            .same("one letter", new Bench().word("a").x.keepPoints(1, false), 4)
            .same("60 letters", new Bench().word("a".repeat(60)).x.keepPoints(1, true), 122);
    }

    private static void elements() {
        Sentence points = Sentence.of(35, "Makes a row of the coordinates of the pen: element 2 * k is its x and element 2 * k + 1 "
                + "its y after the first k letters of the current word, for each k from 0 to the length of the word.");
        Bench b = kept("b".repeat(60), 0, false);
        for (int k = 1; k <= 60; k++) {
            // 61 would need one letter more, so k % 60 tells each k but the last
            points.same("the x after " + k + " letters", b.x.remainder(0, 2 * k, 120), k == 60 ? 0.0 : (double) k);
        }
        Bench up = kept("c" + "b".repeat(59), 1, true);
        for (int k = 2; k <= 60; k++) {
            points.same("the y after " + k + " letters", up.x.remainder(1, 2 * k + 1, 121), k == 60 ? 0.0 : (double) (k - 1));
        }
        points.same("the empty word", Checks.answerOf(() -> kept("", 0, false).x.remainder(0, 0, 1)), "ArithmeticException");
        points.same("no third element", Checks.answerOf(() -> kept("", 0, false).x.remainder(0, 0, 2)),
                "IndexOutOfBoundsException");
        points.same("the point before a close", kept("bbebbbf", 0, false).x.remainder(0, 12, 2), 0.5);
        points.same("the point after a close", kept("bbebbbf", 0, false).x.remainder(0, 14, 12), 2.0);
        Bench shorter = kept("b".repeat(60), 0, false).word("bb");
        shorter.x.keepPoints(0, false);
        points.same("a shorter row in place of a longer one", Checks.answerOf(() -> shorter.x.remainder(0, 6, 4)),
                "IndexOutOfBoundsException");
        points.same("its last element but one", shorter.x.remainder(0, 2, 4), 1.0);
        Bench stays = kept("bb", 0, false).word("bbb");
        points.same("a new word leaves the row", Checks.answerOf(() -> stays.x.remainder(0, 6, 4)), "IndexOutOfBoundsException");
    }

    /** Behind x = 16 the floats are 2^-19 apart, so that each second part of 2^-20 is rounded to an even one. */
    private static void floats() {
        String word = "b".repeat(16) + DEEP + "bbbbbb";
        int[] rounded = {0, 0, 2, 4, 4, 4, 6};
        Sentence cast = Sentence.of(35, "Coordinates are converted to float by a Java cast if the elements are of type float.");
        Sentence single = Sentence.of(35, "- `single`: true for elements of type float, false for elements of type double");
        for (int parts = 0; parts <= 6; parts++) {
            int index = 2 * (36 + parts);
            double due = (float) (16 + parts * PART) % 1f;
            cast.same("16 and " + parts + " parts", kept(word, 1, true).x.remainder(1, index, 2), due);
            cast.same("the rounding of " + parts + " parts", due, rounded[parts] * PART);
            single.same("16 and " + parts + " parts as doubles", kept(word, 1, false).x.remainder(1, index, 2), parts * PART);
        }
        String below = "b".repeat(15) + DEEP + "bbb";
        cast.same("15 and 3 parts", kept(below, 0, true).x.remainder(0, 76, 2), 3 * PART);
        String left = "cc" + "b".repeat(16) + DEEP + "bbb";
        cast.same("-16 and -3 parts", kept(left, 0, true).x.remainder(0, 82, 6), -4 * PART);
        single.same("-16 and -3 parts as doubles", kept(left, 0, false).x.remainder(0, 82, 6), -3 * PART);
        Bench again = kept(word, 0, true);
        again.x.keepPoints(0, false);
        single.same("doubles in place of floats", again.x.remainder(0, 74, 2), PART);
        again.x.keepPoints(0, true);
        single.same("floats in place of doubles", again.x.remainder(0, 74, 2), 0.0);
    }

    private static void remainder() {
        Sentence.of(36, "- `row`: the row, 0 or 1").takes(0, 1, BUSY, Bench.ARGUMENT, (x, row) -> x.remainder(row, 0, 2 + 4 * row));
        Sentence.of(36, "Throws `IllegalArgumentException` if there is no such row")
            .refusedOutside(0, 1, BUSY, Bench.ARGUMENT, (x, row) -> x.remainder(row, 2, 2))
            .refusedOutside(0, 1, Scene.fresh(), Bench.ARGUMENT, (x, row) -> x.remainder(row, 0, 0));
    }

    private static void missingRows() {
        Scene one = Scene.fresh().with(b -> b.pen().word("bb").x.keepPoints(1, true));
        Bench made = new Bench();
        made.x.keepPoints(0, false);
        Sentence.of(36, "Throws `IllegalStateException` if the row is missing")
            .refused("row 0 of a new object", Scene.fresh(), Bench.STATE, x -> x.remainder(0, 0, 0))
            .refused("row 1 of a new object", Scene.fresh(), Bench.STATE, x -> x.remainder(1, 0, 0))
            .refused("row 0 beside row 1", one, Bench.STATE, x -> x.remainder(0, 2, 2))
            .same("row 1", one.make().x.remainder(1, 4, 2), 0.0)
            .same("a row of the empty word is not missing", Checks.answerOf(() -> made.x.remainder(0, 0, 0)), "ArithmeticException");
    }

    private static void indexes() {
        Scene six = BUSY.with(b -> b.word("bb").x.keepPoints(0, false));
        Scene most = BUSY.with(b -> b.word("b".repeat(60)).x.keepPoints(1, true));
        Scene least = Scene.fresh().with(b -> b.x.keepPoints(0, true));
        Sentence.of(36, "- `dividend`: the index of the dividend")
            .takes(0, 5, six, Bench.INDEX, (x, index) -> x.remainder(0, index, 2))
            .takes(0, 121, most, Bench.INDEX, (x, index) -> x.remainder(1, index, 2));
        Sentence.of(36, "- `divisor`: the index of the divisor")
            .same("the last index of six", kept("cb", 0, false).x.remainder(0, 0, 5), 0.0)
            .same("the last index of 122", kept("c" + "b".repeat(59), 0, false).x.remainder(0, 119, 121), 58.0)
            .same("the first index is one, but 0 stands there", Checks.answerOf(() -> most.make().x.remainder(1, 2, 0)),
                "ArithmeticException")
            .same("one before it", Checks.answerOf(() -> most.make().x.remainder(1, 2, -1)), "IndexOutOfBoundsException")
            .same("one behind the last", Checks.answerOf(() -> most.make().x.remainder(1, 2, 122)), "IndexOutOfBoundsException");
        Sentence.of(36, "Throws `IndexOutOfBoundsException` if there is no such index")
            .refusedOutside(0, 5, six, Bench.INDEX, (x, index) -> x.remainder(0, index, 2))
            .refusedOutside(0, 5, six, Bench.INDEX, (x, index) -> x.remainder(0, 2, index))
            .refusedOutside(0, 121, most, Bench.INDEX, (x, index) -> x.remainder(1, index, 2))
            .refusedOutside(0, 121, most, Bench.INDEX, (x, index) -> x.remainder(1, 2, index))
            .refused("index 121 of a shorter row", six, Bench.INDEX, x -> x.remainder(0, 121, 2))
            .refused("index 2 of the shortest row", least, Bench.INDEX, x -> x.remainder(0, 2, 0))
            .refused("divisor 2 of the shortest row", least, Bench.INDEX, x -> x.remainder(0, 1, 2));
    }

    /** In this row x is 0, 1, 2 and 3, then y is 1 and 2, then x is 2.5, and then both go below 0. */
    private static void signs() {
        Sentence operator = Sentence.of(36, "Returns the remainder of two elements of a row by the Java operator %, in the type of "
                + "the elements; a float remainder is converted to double.");
        String word = "bbbcbbcebfbbbbbccbdbbbbb";
        for (boolean single : new boolean[] {true, false}) {
            Bench b = kept(word, 0, single);
            double[] row = points(word, single);
            int asked = 0;
            for (int i = 0; i < row.length; i++) {
                for (int j = i % 7; j < row.length; j += 7) {
                    if (row[j] != 0 && asked < 400) {
                        asked++;
                        double due = single ? (float) row[i] % (float) row[j] : row[i] % row[j];
                        operator.same(row[i] + " % " + row[j], b.x.remainder(0, i, j), due);
                    }
                }
            }
        }
        String left = "ccbbbbdbbbbbb";
        Bench b = kept(left, 1, true);
        operator.same("-4 % 3", b.x.remainder(1, 12, 21), -1.0);
        operator.same("-4 % 4 is -0.0", b.x.remainder(1, 12, 23), -0.0);
        operator.same("4 % -4", b.x.remainder(1, 23, 12), 0.0);
        operator.same("5 % -4", b.x.remainder(1, 25, 12), 1.0);
        operator.same("-3 % -4", b.x.remainder(1, 10, 12), -3.0);
        operator.same("-4 % -3", b.x.remainder(1, 12, 10), -1.0);
        operator.same("0 % -4", b.x.remainder(1, 0, 12), 0.0);
    }

    /** The points of a figure, worked out here letter by letter; e and f stand once at most. */
    private static double[] points(String word, boolean single) {
        double[] row = new double[2 * word.length() + 2];
        int[][] directions = {{1, 0}, {0, 1}, {-1, 0}, {0, -1}};
        double[] pen = {0, 0, 0, 1};
        double[] held = pen;
        for (int k = 0; k < word.length(); k++) {
            char letter = word.charAt(k);
            if (letter == 'b') {
                pen[0] += directions[(int) pen[2]][0] * pen[3];
                pen[1] += directions[(int) pen[2]][1] * pen[3];
            } else if (letter == 'e') {
                held = pen.clone();
                pen[3] /= 2;
            } else if (letter == 'f') {
                pen = held;
            } else {
                pen[2] = (pen[2] + (letter == 'c' ? 1 : 3)) % 4;
            }
            row[2 * k + 2] = single ? (float) pen[0] : pen[0];
            row[2 * k + 3] = single ? (float) pen[1] : pen[1];
        }
        return row;
    }

    private static void divisors() {
        Sentence zero = Sentence.of(36, "Throws `ArithmeticException` if the divisor is 0");
        for (boolean single : new boolean[] {true, false}) {
            Scene scene = BUSY.with(b -> b.word("bccbbb").x.keepPoints(0, single));
            zero.refused("1 % 0", scene, Bench.ARITHMETIC, x -> x.remainder(0, 2, 0));
            zero.refused("0 % 0", scene, Bench.ARITHMETIC, x -> x.remainder(0, 0, 1));
            zero.refused("-2 % 0, where the pen has come back to", scene, Bench.ARITHMETIC, x -> x.remainder(0, 12, 8));
            zero.same("0 % 1", scene.make().x.remainder(0, 0, 2), 0.0);
            zero.same("1 % -2", scene.make().x.remainder(0, 2, 12), 1.0);
            Bench least = kept("b" + DEEP + "ccb" + "ccbb", 1, single);
            zero.same("the least divisor, " + PART, least.x.remainder(1, 2, 2), 0.0);
            Bench tiny = kept(DEEP + "bb", 1, single);
            zero.same("two parts of 2^-20 by one", tiny.x.remainder(1, 44, 42), 0.0);
            zero.same("one part by two", tiny.x.remainder(1, 42, 44), PART);
            Bench below = kept(DEEP + "ccbb", 1, single);
            zero.same("minus one part by minus two", below.x.remainder(1, 46, 48), -PART);
            zero.same("minus two parts by minus one", below.x.remainder(1, 48, 46), -0.0);
        }
    }
}
