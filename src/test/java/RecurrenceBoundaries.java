/** Boundaries of promises 22 and 23 and of what the description says of recurrences. */
final class RecurrenceBoundaries {
    private static final Scene BUSY = Scene.busy();
    private static final String TABLE = "- `table`: the table, 0 to 2";
    private static final String NO_TABLE = "Throws `IndexOutOfBoundsException` if there is no such table";
    private static final String WRONG_TABLE = "Throws `IllegalStateException` if the table is not deterministic or not plain";

    private RecurrenceBoundaries() {
    }

    static void run() {
        modulo();
        lowestOrder();
        orderZero();
        recurrenceOrder();
        recurrenceCoefficient();
    }

    private static String recurrence(Bench b) {
        StringBuilder numbers = new StringBuilder();
        int order = b.x.recurrenceOrder(0);
        for (int k = 1; k <= order; k++) {
            numbers.append(b.x.recurrenceCoefficient(0, k)).append(' ');
        }
        return numbers.toString().strip();
    }

    private static void modulo() {
        Bench four = new Bench().list(0, 'a', "aca").list(0, 'b', "daa").list(0, 'c', "bdb").list(0, 'd', "bdab")
                .word("aabbbccddd");
        Sentence.of(0, "Consider the sequence of the lengths of the words after 0, 1, 2 and so on steps, modulo 10007.")
            .same("lengths beyond 10007", recurrence(new Bench().list(0, 'a', "aaaa").word("a".repeat(60))), "4")
            .same("the first length is that after 0 steps", recurrence(new Bench().list(0, 'a', "bb").word("a")), "1 0")
            .same("not modulo 10007 the numbers are 3 0 1 2", recurrence(four), "9886 5010 807");
        long[] lengths = new long[9];
        for (int n = 0; n < lengths.length; n++) {
            lengths[n] = four.x.lengthAfter(0, n) % 10007;
        }
        Sentence numbers = Sentence.of(23, "Returns a number of the recurrence of the order that recurrenceOrder returns.");
        for (int n = 3; n < lengths.length; n++) {
            long due = 0;
            for (int k = 1; k <= 3; k++) {
                due += four.x.recurrenceCoefficient(0, k) * lengths[n - k];
            }
            numbers.same("the element " + n, due % 10007, lengths[n]);
        }
    }

    private static void lowestOrder() {
        Sentence.of(0, "Its order is the lowest number k for which there are numbers c1 to ck from 0 to 10006 such that for each n "
                + "from k on the element n is c1 times the element n - 1 plus c2 times the element n - 2 and so on up to ck times the "
                + "element n - k, modulo 10007.")
            .same("a number that is 0: 1, 0, 0", recurrence(new Bench().list(0, 'a', "").word("a")), "0")
            .same("the last number is 0: 1, 1, 0, 0", recurrence(new Bench().list(0, 'a', "b").list(0, 'b', "").word("a")), "0 0")
            .same("the last number is 0: 2, 1, 1", recurrence(new Bench().list(0, 'a', "").word("ab")), "1 0")
            .same("a number that is 10006: 1, 2, 3", recurrence(new Bench().list(0, 'a', "ab").word("a")), "2 10006")
            .same("1, 2, 2, 0", recurrence(new Bench().list(0, 'a', "bb").list(0, 'b', "c").list(0, 'c', "")
                .word("a")), "0 0 0")
            .same("two letters that are one: 2, 4, 8", recurrence(new Bench().list(0, 'a', "bb").list(0, 'b', "aa")
                .word("ab")), "2")
            .same("the last letter counts: six elements and none", recurrence(chain("").word("a")), "0 0 0 0 0 0")
            .same("six letters in a ring", recurrence(chain("aa").word("a")), "0 0 0 0 0 2")
            .same("six letters in a ring at once", recurrence(chain("aa").word("abcdef")), "0 0 0 0 0 2")
            .same("six letters in a ring that stays", recurrence(chain("a").word("abcdef")), "1");
    }

    private static Bench chain(String last) {
        return new Bench().list(0, 'a', "b").list(0, 'b', "c").list(0, 'c', "d").list(0, 'd', "e").list(0, 'e', "f")
                .list(0, 'f', last);
    }

    private static void orderZero() {
        Sentence.of(0, "The order is 0 if all elements are 0.")
            .same("the empty word", new Bench().x.recurrenceOrder(0), 0)
            .same("the empty word in another table", new Bench().list(2, 'a', "aa").x.recurrenceOrder(2), 0)
            .same("only the first element is not 0", new Bench().list(0, 'a', "").word("a").x.recurrenceOrder(0), 1)
            .same("a word that has become empty", emptied().x.recurrenceOrder(0), 0)
            .same("the empty word behind one that grows", afterGrowth(), "1 0 1 0");
    }

    private static String afterGrowth() {
        Bench b = new Bench().list(0, 'a', "aa").word("a");
        String orders = b.x.recurrenceOrder(0) + " " + b.word("").x.recurrenceOrder(0);
        return orders + " " + b.word("b").x.recurrenceOrder(0) + " " + b.word("").x.recurrenceOrder(0);
    }

    private static Bench emptied() {
        Bench b = new Bench().list(0, 'a', "").word("aaa");
        b.x.recurrenceOrder(0);
        b.x.step(0, 0);
        return b;
    }

    /** Three plain deterministic tables and a word of order 2 in each. */
    private static Scene plain() {
        return BUSY.with(b -> {
            b.x.removeContextRule(0, 0, 1);
            b.x.removeContextRule(0, 1, 2);
            b.x.removeContextRule(2, 3, 3);
            b.list(0, 'a', "ab").list(1, 'a', "ab").list(1, 'b', "b").list(2, 'a', "ab").list(2, 'c', "c").word("a");
        });
    }

    private static void refusesOtherTables(Sentence sentence, Call.WithNumber call) {
        sentence.refused("a table with choices", BUSY.with(b -> b.list(1, 'f', "f", "f")), Bench.STATE, x -> call.on(x, 1));
        sentence.refused("a table with a rule", BUSY, Bench.STATE, x -> call.on(x, 2));
        sentence.refused("a table with both", BUSY, Bench.STATE, x -> call.on(x, 0));
        Bench b = plain().make();
        sentence.same("a table with neither", call.on(b.x, 1), 2);
    }

    private static void recurrenceOrder() {
        Sentence.of(22, TABLE).takes(0, 2, plain(), Bench.INDEX, (x, table) -> x.recurrenceOrder(table));
        Sentence.of(22, NO_TABLE).refusedOutside(0, 2, plain(), Bench.INDEX, (x, table) -> x.recurrenceOrder(table));
        refusesOtherTables(Sentence.of(22, WRONG_TABLE), (x, table) -> x.recurrenceOrder(table));
        Sentence orders = Sentence.of(22, "Returns the order, 0 to 6.");
        orders.same("the empty word", chain("").x.recurrenceOrder(0), 0);
        for (int order = 1; order <= 6; order++) {
            orders.same("order " + order, chain("").word("fedcba".substring(order - 1, order)).x.recurrenceOrder(0), order);
        }
        orders.same("six letters of a growth of degree 5", new Bench().list(0, 'b', "ba").list(0, 'c', "cb").list(0, 'd', "dc")
            .list(0, 'e', "ed").list(0, 'f', "fe").word("f").x.recurrenceOrder(0), 6);
    }

    private static void recurrenceCoefficient() {
        Sentence.of(23, TABLE).takes(0, 2, plain(), Bench.INDEX, (x, table) -> x.recurrenceCoefficient(table, 1));
        Sentence.of(23, "- `number`: k for the number ck")
            .takes(1, 2, plain(), Bench.MISSING, (x, number) -> x.recurrenceCoefficient(1, number))
            .same("c1", plain().make().x.recurrenceCoefficient(1, 1), 2)
            .same("c2", plain().make().x.recurrenceCoefficient(1, 2), 10006);
        Sentence.of(23, "Returns the number, 0 to 10006.")
            .same("the lowest", new Bench().list(0, 'a', "").word("a").x.recurrenceCoefficient(0, 1), 0)
            .same("the highest", new Bench().list(0, 'a', "ab").word("a").x.recurrenceCoefficient(0, 2), 10006);
        Sentence.of(23, NO_TABLE).refusedOutside(0, 2, plain(), Bench.INDEX, (x, table) -> x.recurrenceCoefficient(table, 1));
        refusesOtherTables(Sentence.of(23, WRONG_TABLE), (x, table) -> x.recurrenceCoefficient(table, 1));
        Sentence range = Sentence.of(23, "Throws `NoSuchElementException` if number is not from 1 to the order");
        range.refused("order 0, number 1", plain().with(b -> b.word("")), Bench.MISSING, x -> x.recurrenceCoefficient(1, 1));
        range.refused("order 0, number 0", plain().with(b -> b.word("")), Bench.MISSING, x -> x.recurrenceCoefficient(1, 0));
        range.refusedOutside(1, 2, plain(), Bench.MISSING, (x, number) -> x.recurrenceCoefficient(1, number));
        Scene six = Scene.fresh().with(b -> b.list(0, 'a', "b").list(0, 'b', "c").list(0, 'c', "d").list(0, 'd', "e")
            .list(0, 'e', "f").list(0, 'f', "aaa").word("a"));
        range.same("order 6, number 1", six.make().x.recurrenceCoefficient(0, 1), 0);
        range.same("order 6, number 6", six.make().x.recurrenceCoefficient(0, 6), 3);
        range.refusedOutside(1, 6, six, Bench.MISSING, (x, number) -> x.recurrenceCoefficient(0, number));
    }
}
