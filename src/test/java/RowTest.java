/** Promises 35 and 36. In the figures the letters a to f mean draw, move, left, right, open and close. */
final class RowTest {
    private static final double PART = 1.0 / 1048576;

    public static void main(String[] args) {
        keeps();
        remaindersWithSigns();
        roundsToFloat();
        refusals();
        Checks.finish();
    }

    private static void keeps() {
        Bench b = new Bench().pen();
        Checks.same("the empty word", b.x.keepPoints(0, false), 2);
        Checks.same("a word of three", b.word("aca").x.keepPoints(1, true), 8);
        Checks.same("a word of sixty", b.word("a".repeat(60)).x.keepPoints(0, false), 122);
        Checks.same("the last x is 60, and 7 is before", b.x.remainder(0, 120, 14), 4.0);
        Checks.same("the other row stays", b.x.remainder(1, 6, 7), 0.0);
        Checks.same("a shorter row comes in place", b.word("b").x.keepPoints(0, false), 4);
        Checks.throwing("what was behind is gone", Bench.INDEX, () -> b.x.remainder(0, 4, 2));
        // after 0 to 6 letters: (0 0) (1 0) (1 0) (1.5 0) (1.5 0) (1.5 0.5) (1 0)
        b.word("aeacaf").x.keepPoints(0, false);
        Checks.same("close takes the point back", b.x.remainder(0, 10, 12), 0.5);
        Checks.same("y after a turn", b.x.remainder(0, 12, 11), 0.0);
        Checks.throwing("y is 0 after close", Bench.ARITHMETIC, () -> b.x.remainder(0, 12, 13));
    }

    private static void remaindersWithSigns() {
        for (boolean single : new boolean[] {true, false}) {
            Bench b = new Bench().pen();
            // x goes from 0 to -5, and y then to 3
            b.word("ccaaaaadaaa").x.keepPoints(0, single);
            Checks.same("-5 % -3", b.x.remainder(0, 14, 10), -2.0);
            Checks.same("-5 % 3", b.x.remainder(0, 14, 23), -2.0);
            Checks.same("3 % -5", b.x.remainder(0, 23, 14), 3.0);
            Checks.same("3 % -2", b.x.remainder(0, 23, 8), 1.0);
            Checks.same("-4 % -2", b.x.remainder(0, 12, 8), -0.0);
            Checks.same("0 % -2", b.x.remainder(0, 0, 8), 0.0);
            Checks.throwing("-4 % 0", Bench.ARITHMETIC, () -> b.x.remainder(0, 12, 0));
            Checks.throwing("0 % 0", Bench.ARITHMETIC, () -> b.x.remainder(0, 0, 1));
        }
    }

    private static void roundsToFloat() {
        Bench b = new Bench().pen();
        // after 39 letters x is 19, and each of the last moves adds a part of 2^-20
        b.word("b".repeat(19) + "e".repeat(20) + "bbb");
        Checks.same("double row", b.x.keepPoints(0, false), 86);
        Checks.same("float row", b.x.keepPoints(1, true), 86);
        int one = 2;
        int last = 84;
        Checks.same("a double keeps the parts", b.x.remainder(0, last, one), 3 * PART);
        Checks.same("a double keeps one part", b.x.remainder(0, last - 4, one), PART);
        Checks.same("a float rounds 3 parts up", b.x.remainder(1, last, one), 4 * PART);
        Checks.same("a float rounds 1 part down", b.x.remainder(1, last - 4, one), 0.0);
        Checks.same("the type is the row's", b.x.keepPoints(0, true), 86);
        Checks.same("now a float there too", b.x.remainder(0, last, one), 4 * PART);
    }

    private static void refusals() {
        Bench b = new Bench().pen().word("f");
        for (int row : new int[] {-1, 2, Integer.MIN_VALUE, Integer.MAX_VALUE}) {
            Checks.throwing("keepPoints of row " + row, Bench.INDEX, () -> b.x.keepPoints(row, false));
            Checks.throwing("remainder of row " + row, Bench.ARGUMENT, () -> b.x.remainder(row, -1, -1));
        }
        Checks.throwing("no figure", Bench.STATE, () -> b.x.keepPoints(0, false));
        Checks.throwing("a missing row comes before an index", Bench.STATE, () -> b.x.remainder(0, -1, -1));
        b.word("aa").x.keepPoints(0, false);
        for (int index : new int[] {-1, 6, 7, 122, Integer.MIN_VALUE, Integer.MAX_VALUE}) {
            Checks.throwing("dividend " + index, Bench.INDEX, () -> b.x.remainder(0, index, 0));
            Checks.throwing("divisor " + index, Bench.INDEX, () -> b.x.remainder(0, 0, index));
        }
        Checks.throwing("row 1 is missing still", Bench.STATE, () -> b.x.remainder(1, 0, 0));
        b.word("ff");
        Checks.throwing("no figure now", Bench.STATE, () -> b.x.keepPoints(0, true));
        Checks.same("the row stays", b.x.remainder(0, 2, 4), 1.0);
    }
}
