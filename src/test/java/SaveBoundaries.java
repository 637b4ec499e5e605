/** Boundaries of promises 37 and 38. */
final class SaveBoundaries {
    private static final Scene BUSY = Scene.busy();

    private SaveBoundaries() {
    }

    static void run() {
        save();
        restore();
        nothingSaved();
    }

    private static Object restored(ParallelRewriting x) {
        x.restore();
        return "restored";
    }

    private static void save() {
        Sentence place = Sentence.of(37, "Saves the tables, the current word, the target word and the commands, in place of what was "
                + "saved before.");
        Bench b = new Bench().both("abc", "a");
        b.x.save();
        b.both("", "").x.save();
        b.both("f", "ff").x.restore();
        place.same("an empty word in place of another", b.current(), "");
        place.yes("an empty target in place of another", b.x.isTarget());
        String sixty = "abcdef".repeat(10);
        Bench longest = new Bench().both(sixty, sixty);
        longest.x.save();
        longest.both("", "").x.restore();
        place.same("a word of 60", longest.current(), sixty);
        place.yes("a target of 60", longest.x.isTarget());
        Scene saved = BUSY.with(busy -> {
            busy.word(busy.current()).text("ace").x.save();
        });
        Scene back = saved.with(busy -> {
            busy.text("fff").x.setTarget();
            busy.word("a").list(0, 'a', "fd", "", "f").list(0, 'f', "").rule(0, 'a', 'b', "dd").rule(1, 'f', 'f', "");
            busy.command('a', "close").text("ace");
            busy.x.restore();
        });
        place.same("all that can be seen after other calls and restore", back.seen(), saved.seen());
        Bench full = new Bench().list(2, 'f', "abcd", "bcde", "cdef");
        for (char left = 'a'; left <= 'f'; left++) {
            full.rule(2, left, 'f', "ffff");
        }
        full.x.save();
        full.list(2, 'f', "").rule(2, 'a', 'f', "");
        full.x.removeContextRule(2, 5, 5);
        full.x.restore();
        place.same("a full list", full.x.productionCount(2, 5), 3);
        place.same("a fourth production", Checks.answerOf(() -> full.text("a").x.addProduction(2, 5)), "IllegalStateException");
        place.same("a seventh rule", Checks.answerOf(() -> full.x.setContextRule(2, 0, 0)), "IllegalStateException");
        place.same("the productions of rules", full.both("aff", "affffffff").x.ways(2), 1L);
    }

    private static void restore() {
        Sentence stay = Sentence.of(38, "They stay saved.");
        Bench b = new Bench().list(0, 'a', "ab").rule(1, 'a', 'b', "c").command('a', "draw").both("ab", "abb");
        b.x.save();
        for (int times = 0; times < 3; times++) {
            b.list(0, 'a', "").command('a', "skip").both("", "f").x.removeContextRule(1, 0, 1);
            b.x.restore();
            stay.same("the word", b.current(), "ab");
            stay.same("the figure", b.x.segmentCount(), 1);
            stay.same("the ways", b.x.ways(0), 1L);
            stay.no("table 1 is plain", b.x.isPlain(1));
            b.x.step(0, 0);
            stay.yes("the target", b.x.isTarget());
        }
        Bench changed = new Bench().both("ab", "abb");
        changed.x.save();
        changed.x.restore();
        changed.list(0, 'a', "bb").command('b', "draw");
        changed.x.step(0, 0);
        changed.x.restore();
        stay.same("what is done after restore does not change it", changed.current(), "ab");
        stay.same("nor the commands", changed.x.segmentCount(), 0);
        restoresNothingElse();
    }

    private static void restoresNothingElse() {
        Bench b = new Bench().list(0, 'a', "b").text("ab");
        b.x.keepPoints(0, false);
        b.x.save();
        b.pen().word("aaa").x.keepPoints(0, true);
        b.x.step(0, 0);
        b.text("face").x.restore();
        Sentence.of(38, "Restores the tables, the current word, the target word and the commands as they were saved last.")
            .same("the empty word of a new object", b.current(), "")
            .same("the commands of a new object", b.word("a").x.extent(1), 0.0)
            .no("the steps stay", b.x.undo())
            .same("the text stays", typedAfterSave().x.clearText(), 4)
            .same("a row stays", b.x.remainder(0, 2, 4), 1.0);
    }

    private static Bench typedAfterSave() {
        Bench b = new Bench().text("ab");
        b.x.save();
        b.text("face").x.restore();
        return b;
    }

    private static void nothingSaved() {
        Sentence nothing = Sentence.of(38, "Throws `IllegalStateException` if nothing was saved");
        nothing.refused("a new object", Scene.fresh(), Bench.STATE, SaveBoundaries::restored);
        Scene used = Scene.fresh().with(b -> {
            b.list(0, 'a', "ab", "", "c").rule(1, 'a', 'b', "ef").list(2, 'c', "dc").pen().word("aeacaf").x.keepPoints(1, false);
            b.both("abc", "abacd").x.step(2, 1);
            b.text("face");
        });
        nothing.refused("an object that was used", used, Bench.STATE, SaveBoundaries::restored);
        Bench one = new Bench();
        one.x.save();
        nothing.same("a new object that was saved", Checks.answerOf(() -> restored(one.x)), "restored");
        nothing.same("and again", Checks.answerOf(() -> restored(one.x)), "restored");
        Bench late = new Bench();
        nothing.same("refused at first", Checks.answerOf(() -> restored(late.x)), "IllegalStateException");
        nothing.same("refused again", Checks.answerOf(() -> restored(late.x)), "IllegalStateException");
        late.x.save();
        nothing.same("then saved", Checks.answerOf(() -> restored(late.x)), "restored");
    }
}
