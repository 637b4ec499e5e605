/** Promises 22 and 23. */
final class RecurrenceTest {
    public static void main(String[] args) {
        orders();
        highestOrder();
        refusals();
        Checks.finish();
    }

    private static void due(String name, Bench b, int table, int... coefficients) {
        Checks.same(name + ": order", b.x.recurrenceOrder(table), coefficients.length);
        for (int k = 1; k <= coefficients.length; k++) {
            Checks.same(name + ": c" + k, b.x.recurrenceCoefficient(table, k), coefficients[k - 1]);
        }
        int order = coefficients.length;
        for (int wrong : new int[] {0, -1, order + 1, Integer.MIN_VALUE, Integer.MAX_VALUE}) {
            Checks.throwing(name + ": c" + wrong, Bench.MISSING, () -> b.x.recurrenceCoefficient(table, wrong));
        }
    }

    private static void orders() {
        Bench b = new Bench();
        due("the empty word", b, 0);
        due("a constant", b.word("abc"), 0, 1);
        due("fibonacci", b.list(0, 'a', "ab").list(0, 'b', "a").word("a"), 0, 1, 1);
        due("doubling", b.list(1, 'a', "aa").word("aaa"), 1, 2);
        due("n + 1", b.list(2, 'a', "ab").word("a"), 2, 2, 10006);
        Bench dying = new Bench().list(0, 'a', "");
        due("1, 0, 0 ...", dying.word("a"), 0, 0);
        due("2, 1, 1 ...", dying.word("ab"), 0, 1, 0);
        Bench slow = new Bench().list(0, 'a', "b").list(0, 'b', "c").list(0, 'c', "");
        due("1, 1, 1, 0, 0 ...", slow.word("a"), 0, 0, 0, 0);
    }

    private static void highestOrder() {
        Bench first = new Bench().list(0, 'a', "ab").word("a");
        Checks.same("a number before any order", first.x.recurrenceCoefficient(0, 1), 2);
        Checks.same("a number after another word", first.word("b").x.recurrenceCoefficient(0, 1), 1);
        Bench ring = new Bench().list(0, 'a', "b").list(0, 'b', "c").list(0, 'c', "d").list(0, 'd', "e")
                .list(0, 'e', "f").list(0, 'f', "aa");
        due("a ring of six that doubles", ring.word("a"), 0, 0, 0, 0, 0, 0, 2);
        Bench dying = new Bench().list(0, 'a', "bb").list(0, 'b', "c").list(0, 'c', "d").list(0, 'd', "e")
                .list(0, 'e', "f").list(0, 'f', "");
        due("1, 2, 2, 2, 2, 2, 0 ...", dying.word("a"), 0, 0, 0, 0, 0, 0, 0);
        Bench powers = new Bench().list(0, 'b', "ba").list(0, 'c', "cb").list(0, 'd', "dc").list(0, 'e', "ed")
                .list(0, 'f', "fe").word("f");
        due("a growth of degree 5", powers, 0, 6, 10007 - 15, 20, 10007 - 15, 6, 10006);
    }

    private static void refusals() {
        Bench b = new Bench().list(0, 'f', "a", "a").rule(1, 'a', 'a', "a").word("a");
        for (int table : new int[] {-1, 3, Integer.MIN_VALUE, Integer.MAX_VALUE}) {
            Checks.throwing("order of table " + table, Bench.INDEX, () -> b.x.recurrenceOrder(table));
            Checks.throwing("number of table " + table, Bench.INDEX, () -> b.x.recurrenceCoefficient(table, 0));
        }
        for (int table = 0; table < 2; table++) {
            int refused = table;
            Checks.throwing("order of table " + table, Bench.STATE, () -> b.x.recurrenceOrder(refused));
            Checks.throwing("number of table " + table, Bench.STATE, () -> b.x.recurrenceCoefficient(refused, 0));
        }
    }
}
