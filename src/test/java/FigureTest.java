/** Promises 30 to 34. In most figures the letters a to f mean draw, move, left, right, open and close. */
final class FigureTest {
    public static void main(String[] args) {
        commands();
        segments();
        ink();
        extents();
        depths();
        noFigure();
        Checks.finish();
    }

    private static void commands() {
        Bench b = new Bench().word("aaa");
        Checks.same("skip at first", b.x.segmentCount(), 0);
        b.command('a', "draw");
        Checks.same("draw", b.x.segmentCount(), 3);
        Checks.same("the text stays", b.x.clearText(), 4);
        b.command('a', "move");
        Checks.same("move", b.x.segmentCount() + b.x.extent(1), 3.0);
        b.command('a', "skip");
        Checks.same("skip again", b.x.extent(1), 0.0);
        String[] wrong = {"", "Draw", "draws", "dra", "d", " draw", "draw ", "closed", "turn", "f", "skipdraw"};
        b.command('a', "draw");
        for (String text : wrong) {
            b.text(text);
            Checks.throwing("setCommand " + text, Bench.ARGUMENT, () -> set(b, 0));
            Checks.throwing("a letter that is not there comes first", Bench.INDEX, () -> set(b, 6));
        }
        Checks.same("the command stays", b.x.segmentCount(), 3);
        b.text("move");
        for (int letter : new int[] {-1, 6, Integer.MIN_VALUE, Integer.MAX_VALUE}) {
            Checks.throwing("setCommand of letter " + letter, Bench.INDEX, () -> set(b, letter));
        }
    }

    private static int set(Bench b, int letter) {
        b.x.setCommand(letter);
        return 0;
    }

    private static void segments() {
        Bench b = new Bench().pen();
        Checks.same("the empty word", b.x.segmentCount(), 0);
        Checks.same("a square", b.word("acacacac").x.segmentCount(), 4);
        Checks.same("a square twice", b.word("acacacacacacacac").x.segmentCount(), 4);
        Checks.same("there and back", b.word("acca").x.segmentCount(), 1);
        Checks.same("right turns", b.word("adadadad").x.segmentCount(), 4);
        Checks.same("left, then right", b.word("cacadada").x.segmentCount(), 4);
        Checks.same("a half over a whole is another segment", b.word("aeccaf").x.segmentCount(), 2);
        Checks.same("two halves", b.word("eafbcceaf").x.segmentCount(), 2);
        Checks.same("the same halves", b.word("eafeafea").x.segmentCount(), 1);
        Checks.same("a move leaves no segment", b.word("abab").x.segmentCount(), 2);
        Checks.same("sixty", b.word("a".repeat(60)).x.segmentCount(), 60);
        Checks.same("the same x, other y", b.word("acbca").x.segmentCount(), 2);
    }

    private static void ink() {
        Bench b = new Bench().pen();
        Checks.same("the empty word", b.x.inkLength(), 0.0);
        Checks.same("a square", b.word("acacacac").x.inkLength(), 4.0);
        Checks.same("there and back", b.word("acca").x.inkLength(), 1.0);
        Checks.same("halves and quarters", b.word("aeaeaff").x.inkLength(), 1.75);
        Checks.same("the length comes back", b.word("eafca").x.inkLength(), 1.5);
        Checks.same("the shortest step", b.word("e".repeat(20) + "a").x.inkLength(), 1.0 / 1048576);
        Checks.same("moves", b.word("bbb").x.inkLength(), 0.0);
    }

    private static void extents() {
        Bench b = new Bench().pen();
        dueExtents(b.word(""), 0, 0, 0, 0);
        dueExtents(b.word("bb"), 0, 2, 0, 0);
        dueExtents(b.word("cbbccb"), 0, 0, 0, 2);
        dueExtents(b.word("ccaaa"), -3, 0, 0, 0);
        dueExtents(b.word("dab"), 0, 0, -2, 0);
        dueExtents(b.word("acaacaaaca"), -2, 1, 0, 2);
        dueExtents(b.word("ebcbf" + "cca"), -1, 0.5, 0, 0.5);
        dueExtents(b.word("dbbebebf"), 0, 0, -2.75, 0);
        dueExtents(b.word("cbebcbecbfbdfb"), -1, 0, 0, 2);
        dueExtents(b.word("ddbecbfbb"), -3, 0.0, -0.5, 0);
        for (int side : new int[] {-1, 4, Integer.MIN_VALUE, Integer.MAX_VALUE}) {
            Checks.throwing("side " + side, Bench.ARGUMENT, () -> b.x.extent(side));
        }
        b.word("f");
        Checks.throwing("a wrong side comes before no figure", Bench.ARGUMENT, () -> b.x.extent(4));
    }

    private static void dueExtents(Bench b, double... due) {
        for (int side = 0; side < 4; side++) {
            Checks.same("extent " + side + " of " + b.current(), b.x.extent(side), due[side]);
        }
    }

    private static void depths() {
        Bench b = new Bench().pen();
        Checks.same("the empty word", b.x.openDepth(), 0);
        Checks.same("no open", b.word("abcd").x.openDepth(), 0);
        Checks.same("one after the other", b.word("efefef").x.openDepth(), 1);
        Checks.same("one in the other", b.word("eeffef").x.openDepth(), 2);
        Checks.same("not closed", b.word("eee").x.openDepth(), 3);
        Checks.same("twenty", b.word("e".repeat(20) + "f".repeat(20)).x.openDepth(), 20);
        Checks.same("less than the figure before", b.word("aef").x.openDepth(), 1);
    }

    private static void noFigure() {
        Bench b = new Bench().pen();
        String[] wrong = {"f", "af", "eff", "efefeffe", "e".repeat(21), "e".repeat(20) + "fee"};
        for (String word : wrong) {
            b.word(word);
            Checks.throwing("segmentCount of " + word, Bench.STATE, b.x::segmentCount);
            Checks.throwing("inkLength of " + word, Bench.STATE, b.x::inkLength);
            Checks.throwing("openDepth of " + word, Bench.STATE, b.x::openDepth);
            Checks.throwing("keepPoints of " + word, Bench.STATE, () -> b.x.keepPoints(0, true));
            for (int side = 0; side < 4; side++) {
                int n = side;
                Checks.throwing("extent of " + word, Bench.STATE, () -> b.x.extent(n));
            }
        }
        Checks.same("twenty after a close", b.word("e".repeat(20) + "fe").x.openDepth(), 20);
        Checks.same("a figure after none", b.word("a").x.segmentCount(), 1);
        Checks.same("the word stays", b.current(), "a");
    }
}
