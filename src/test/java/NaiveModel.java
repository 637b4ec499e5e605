import java.math.BigInteger;
import java.util.ArrayDeque;
import java.util.ArrayList;
import java.util.Arrays;
import java.util.HashMap;
import java.util.HashSet;
import java.util.List;
import java.util.Map;
import java.util.NoSuchElementException;
import java.util.Set;

/** The document in its plainest form, by other ways than the class goes: the class is compared with it. */
public final class NaiveModel {
    private static final BigInteger MOST = BigInteger.valueOf(Long.MAX_VALUE);
    private static final int MODULUS = 10007;
    private static final List<String> NAMES = List.of("skip", "draw", "move", "left", "right", "open", "close");

    private String text = "";
    private String word = "";
    private String target = "";
    private List<List<List<String>>> lists = new ArrayList<>();
    private List<Map<String, String>> rules = new ArrayList<>();
    private List<String> commands = new ArrayList<>(List.of("skip", "skip", "skip", "skip", "skip", "skip"));
    private final ArrayDeque<String> history = new ArrayDeque<>();
    private final Object[] rows = new Object[2];
    private NaiveModel saved;

    public NaiveModel() {
        for (int table = 0; table < 3; table++) {
            List<List<String>> of = new ArrayList<>();
            for (char letter = 'a'; letter <= 'f'; letter++) {
                of.add(new ArrayList<>(List.of("" + letter)));
            }
            lists.add(of);
            rules.add(new HashMap<>());
        }
    }

    public int appendCharacter(int character) {
        argument(character >= 32 && character <= 126);
        state(text.length() < 60);
        text += (char) character;
        return text.length();
    }

    public int clearText() {
        int length = text.length();
        text = "";
        return length;
    }

    public int setProduction(int table, int letter) {
        index(table, 3);
        index(letter, 6);
        argument(text.matches("[a-f]{0,4}"));
        lists.get(table).set(letter, new ArrayList<>(List.of(text)));
        return text.length();
    }

    public int addProduction(int table, int letter) {
        index(table, 3);
        index(letter, 6);
        argument(text.matches("[a-f]{0,4}"));
        List<String> list = lists.get(table).get(letter);
        state(list.size() < 3);
        list.add(text);
        return list.size() - 1;
    }

    public int productionCount(int table, int letter) {
        index(table, 3);
        index(letter, 6);
        return lists.get(table).get(letter).size();
    }

    public boolean setContextRule(int table, int left, int letter) {
        index(table, 3);
        index(left, 6);
        index(letter, 6);
        argument(text.matches("[a-f]{0,4}"));
        state(rules.get(table).containsKey(pair(left, letter)) || rules.get(table).size() < 6);
        return rules.get(table).put(pair(left, letter), text) != null;
    }

    public boolean removeContextRule(int table, int left, int letter) {
        index(table, 3);
        index(left, 6);
        index(letter, 6);
        return rules.get(table).remove(pair(left, letter)) != null;
    }

    public boolean isDeterministic(int table) {
        index(table, 3);
        return lists.get(table).stream().allMatch(list -> list.size() == 1);
    }

    public boolean isPlain(int table) {
        index(table, 3);
        return rules.get(table).isEmpty();
    }

    public int setWord() {
        argument(text.matches("[a-f]*"));
        word = text;
        history.clear();
        return word.length();
    }

    public int setTarget() {
        argument(text.matches("[a-f]*"));
        target = text;
        return target.length();
    }

    public int wordLength() {
        return word.length();
    }

    public int wordLetter(int position) {
        index(position, word.length());
        return word.charAt(position) - 'a';
    }

    public boolean isTarget() {
        return word.equals(target);
    }

    public int step(int table, int seed) {
        index(table, 3);
        StringBuilder made = new StringBuilder();
        int x = seed;
        for (int i = 0; i < word.length(); i++) {
            List<String> options = options(table, word, i);
            if (ruleAt(table, word, i) == null) {
                x = x * 1103515245 + 12345;
                made.append(options.get((x >>> 16) % options.size()));
            } else {
                made.append(options.get(0));
            }
        }
        state(made.length() <= 60);
        history.addLast(word);
        if (history.size() > 8) {
            history.removeFirst();
        }
        word = made.toString();
        return word.length();
    }

    public boolean undo() {
        if (history.isEmpty()) {
            return false;
        }
        word = history.removeLast();
        return true;
    }

    public long lengthAfter(int table, int steps) {
        index(table, 3);
        return afterSteps(table, steps)[6].longValueExact();
    }

    public long countAfter(int table, int steps, int letter) {
        index(table, 3);
        index(letter, 6);
        return afterSteps(table, steps)[letter].longValueExact();
    }

    public int growthKind(int table) {
        index(table, 3);
        plainAndDeterministic(table);
        int degree = numericDegree(table);
        return degree == -1 ? 0 : degree == 6 ? 3 : degree == 0 ? 1 : 2;
    }

    public int growthDegree(int table) {
        index(table, 3);
        plainAndDeterministic(table);
        int degree = numericDegree(table);
        if (degree == 6) {
            throw new ArithmeticException();
        }
        return Math.max(degree, 0);
    }

    public int recurrenceOrder(int table) {
        index(table, 3);
        plainAndDeterministic(table);
        return recurrence(table).length;
    }

    public int recurrenceCoefficient(int table, int number) {
        index(table, 3);
        plainAndDeterministic(table);
        int[] found = recurrence(table);
        present(number >= 1 && number <= found.length);
        return found[number - 1];
    }

    public boolean isAdult(int table) {
        index(table, 3);
        return adult(table, word);
    }

    public int stepsToAdult(int table, int limit) {
        index(table, 3);
        argument(limit >= 0 && limit <= 50);
        state(isDeterministic(table));
        String now = word;
        for (int steps = 0; steps <= limit && now.length() <= 60; steps++) {
            if (adult(table, now)) {
                return steps;
            }
            now = firstImage(table, now);
        }
        throw new NoSuchElementException();
    }

    public int adultWords(int table, int length) {
        index(table, 3);
        argument(length >= 0 && length <= 4);
        List<String> words = new ArrayList<>(List.of(""));
        for (int i = 0; i < length; i++) {
            List<String> longer = new ArrayList<>();
            for (String shorter : words) {
                for (char letter = 'a'; letter <= 'f'; letter++) {
                    longer.add(shorter + letter);
                }
            }
            words = longer;
        }
        return (int) words.stream().filter(candidate -> adult(table, candidate)).count();
    }

    public long ways(int table) {
        index(table, 3);
        BigInteger found = waysFrom(table, 0, 0, new HashMap<>());
        if (found.compareTo(MOST) > 0) {
            throw new ArithmeticException();
        }
        return found.longValueExact();
    }

    public int sequenceCount(int steps) {
        return sequences(steps).size();
    }

    public int firstSequence(int steps) {
        List<Integer> found = sequences(steps);
        present(!found.isEmpty());
        return found.get(0);
    }

    public void setCommand(int letter) {
        index(letter, 6);
        argument(NAMES.contains(text));
        commands.set(letter, text);
    }

    public int segmentCount() {
        return figure().segments.size();
    }

    public double inkLength() {
        return figure().ink;
    }

    public double extent(int side) {
        argument(side >= 0 && side <= 3);
        double extreme = 0;
        for (double[] point : figure().points) {
            double coordinate = point[side / 2];
            extreme = side % 2 == 0 ? Math.min(extreme, coordinate) : Math.max(extreme, coordinate);
        }
        return extreme;
    }

    public int openDepth() {
        return figure().deepest;
    }

    public int keepPoints(int row, boolean single) {
        index(row, 2);
        List<double[]> points = figure().points;
        double[] doubles = points.stream().flatMapToDouble(Arrays::stream).toArray();
        float[] floats = new float[doubles.length];
        for (int i = 0; i < floats.length; i++) {
            floats[i] = (float) doubles[i];
        }
        rows[row] = single ? floats : doubles;
        return doubles.length;
    }

    public double remainder(int row, int dividend, int divisor) {
        argument(row == 0 || row == 1);
        state(rows[row] != null);
        if (rows[row] instanceof float[] floats) {
            index(dividend, floats.length);
            index(divisor, floats.length);
            divides(floats[divisor]);
            return floats[dividend] % floats[divisor];
        }
        double[] doubles = (double[]) rows[row];
        index(dividend, doubles.length);
        index(divisor, doubles.length);
        divides(doubles[divisor]);
        return doubles[dividend] % doubles[divisor];
    }

    public void save() {
        saved = new NaiveModel();
        saved.take(this);
    }

    public void restore() {
        state(saved != null);
        take(saved);
        history.clear();
    }

    private void take(NaiveModel other) {
        word = other.word;
        target = other.target;
        commands = new ArrayList<>(other.commands);
        lists = new ArrayList<>();
        rules = new ArrayList<>();
        for (int table = 0; table < 3; table++) {
            List<List<String>> of = new ArrayList<>();
            other.lists.get(table).forEach(list -> of.add(new ArrayList<>(list)));
            lists.add(of);
            rules.add(new HashMap<>(other.rules.get(table)));
        }
    }

    private static void index(int number, int size) {
        if (number < 0 || number >= size) {
            throw new IndexOutOfBoundsException();
        }
    }

    private static void argument(boolean fits) {
        if (!fits) {
            throw new IllegalArgumentException();
        }
    }

    private static void state(boolean fits) {
        if (!fits) {
            throw new IllegalStateException();
        }
    }

    private static void present(boolean fits) {
        if (!fits) {
            throw new NoSuchElementException();
        }
    }

    private static void divides(double divisor) {
        if (divisor == 0) {
            throw new ArithmeticException();
        }
    }

    private void plainAndDeterministic(int table) {
        state(isDeterministic(table) && isPlain(table));
    }

    private static String pair(int left, int letter) {
        return "" + (char) ('a' + left) + (char) ('a' + letter);
    }

    private String ruleAt(int table, String of, int position) {
        return position == 0 ? null : rules.get(table).get(of.substring(position - 1, position + 1));
    }

    private List<String> options(int table, String of, int position) {
        String rule = ruleAt(table, of, position);
        return rule != null ? List.of(rule) : lists.get(table).get(of.charAt(position) - 'a');
    }

    private String firstImage(int table, String of) {
        StringBuilder made = new StringBuilder();
        for (int i = 0; i < of.length(); i++) {
            made.append(options(table, of, i).get(0));
        }
        return made.toString();
    }

    private Set<String> images(int table, String of, int from) {
        if (from == of.length()) {
            return Set.of("");
        }
        Set<String> made = new HashSet<>();
        for (String rest : images(table, of, from + 1)) {
            for (String option : options(table, of, from)) {
                made.add(option + rest);
            }
        }
        return made;
    }

    /** All choices where they are few, and otherwise all that differ from the first one at one place. */
    private boolean adult(int table, String candidate) {
        if (candidate.length() <= 6) {
            return images(table, candidate, 0).equals(Set.of(candidate));
        }
        List<String> parts = new ArrayList<>();
        for (int i = 0; i < candidate.length(); i++) {
            parts.add(options(table, candidate, i).get(0));
        }
        for (int i = 0; i < candidate.length(); i++) {
            String first = parts.get(i);
            for (String option : options(table, candidate, i)) {
                parts.set(i, option);
                if (!String.join("", parts).equals(candidate)) {
                    return false;
                }
            }
            parts.set(i, first);
        }
        return true;
    }

    /** The numbers of the six letters and the length; each word on the way is looked at. */
    private BigInteger[] afterSteps(int table, int steps) {
        argument(steps >= 0 && steps <= 1000);
        plainAndDeterministic(table);
        BigInteger[] counts = countsAtFirst();
        for (int n = 0; n < steps; n++) {
            counts = countsAfterOne(table, counts);
            if (counts[6].compareTo(MOST) > 0) {
                throw new ArithmeticException();
            }
        }
        return counts;
    }

    private BigInteger[] countsAtFirst() {
        BigInteger[] counts = new BigInteger[7];
        for (int letter = 0; letter < 6; letter++) {
            int wanted = 'a' + letter;
            counts[letter] = BigInteger.valueOf(word.chars().filter(c -> c == wanted).count());
        }
        counts[6] = BigInteger.valueOf(word.length());
        return counts;
    }

    private BigInteger[] countsAfterOne(int table, BigInteger[] before) {
        BigInteger[] counts = new BigInteger[7];
        Arrays.fill(counts, BigInteger.ZERO);
        for (int letter = 0; letter < 6; letter++) {
            for (char made : lists.get(table).get(letter).get(0).toCharArray()) {
                counts[made - 'a'] = counts[made - 'a'].add(before[letter]);
                counts[6] = counts[6].add(before[letter]);
            }
        }
        return counts;
    }

    private BigInteger[] lengths(int table, int number) {
        BigInteger[] lengths = new BigInteger[number];
        BigInteger[] counts = countsAtFirst();
        for (int n = 0; n < number; n++) {
            lengths[n] = counts[6];
            counts = countsAfterOne(table, counts);
        }
        return lengths;
    }

    /**
     * Cycles of at most six letters have lengths that divide 60. So in steps of 60 the lengths are
     * exactly those of a polynomial of degree 5 or less, or they grow as a power; differences tell which.
     * Answers -1 for a word that becomes empty, the degree, or 6 if there is none.
     */
    private int numericDegree(int table) {
        BigInteger[] lengths = lengths(table, 6 + 60 * 8);
        int degree = -1;
        for (int start = 6; start < 66; start++) {
            BigInteger[] values = new BigInteger[8];
            for (int k = 0; k < 8; k++) {
                values[k] = lengths[start + 60 * k];
            }
            for (int order = 0; order <= 6; order++) {
                if (values[7].signum() != 0) {
                    degree = Math.max(degree, order);
                }
                for (int k = 7; k > 0; k--) {
                    values[k] = values[k].subtract(values[k - 1]);
                }
            }
        }
        return degree;
    }

    /** The lowest order whose equations over many elements have a solution, by elimination. */
    private int[] recurrence(int table) {
        BigInteger[] lengths = lengths(table, 40);
        int[] elements = new int[40];
        for (int n = 0; n < 40; n++) {
            elements[n] = lengths[n].mod(BigInteger.valueOf(MODULUS)).intValue();
        }
        for (int order = 0; order <= 6; order++) {
            int[] found = solve(elements, order);
            if (found != null) {
                return found;
            }
        }
        throw new IllegalStateException("no recurrence of order 6 or less");
    }

    private static int[] solve(int[] elements, int order) {
        long[][] rows = new long[elements.length - order][order + 1];
        for (int n = order; n < elements.length; n++) {
            for (int k = 1; k <= order; k++) {
                rows[n - order][k - 1] = elements[n - k];
            }
            rows[n - order][order] = elements[n];
        }
        for (int column = 0; column < order; column++) {
            int pivot = column;
            while (pivot < rows.length && rows[pivot][column] == 0) {
                pivot++;
            }
            if (pivot == rows.length) {
                return null;
            }
            long[] chosen = rows[pivot];
            rows[pivot] = rows[column];
            rows[column] = chosen;
            long inverse = BigInteger.valueOf(chosen[column]).modInverse(BigInteger.valueOf(MODULUS)).longValue();
            for (int k = 0; k <= order; k++) {
                chosen[k] = chosen[k] * inverse % MODULUS;
            }
            for (long[] row : rows) {
                long factor = row[column];
                for (int k = 0; k <= order && row != chosen; k++) {
                    row[k] = Math.floorMod(row[k] - factor * chosen[k], MODULUS);
                }
            }
        }
        int[] found = new int[order];
        for (int i = 0; i < rows.length; i++) {
            if (i < order) {
                found[i] = (int) rows[i][order];
            } else if (rows[i][order] != 0) {
                return null;
            }
        }
        return found;
    }

    private BigInteger waysFrom(int table, int position, int reached, Map<Integer, BigInteger> known) {
        if (position == word.length()) {
            return reached == target.length() ? BigInteger.ONE : BigInteger.ZERO;
        }
        int key = position * 100 + reached;
        if (!known.containsKey(key)) {
            BigInteger sum = BigInteger.ZERO;
            for (String option : options(table, word, position)) {
                if (target.startsWith(option, reached)) {
                    sum = sum.add(waysFrom(table, position + 1, reached + option.length(), known));
                }
            }
            known.put(key, sum);
        }
        return known.get(key);
    }

    private List<Integer> sequences(int steps) {
        argument(steps >= 0 && steps <= 5);
        state(isDeterministic(0) && isDeterministic(1) && isDeterministic(2));
        List<Integer> found = new ArrayList<>();
        for (int number = 0; number < Math.round(Math.pow(3, steps)); number++) {
            String digits = Integer.toString(number, 3);
            digits = "0".repeat(5) + digits;
            digits = digits.substring(digits.length() - steps);
            if (number == 0) {
                digits = "0".repeat(steps);
            }
            String now = word;
            boolean fits = true;
            for (char digit : digits.toCharArray()) {
                now = firstImage(digit - '0', now);
                fits &= now.length() <= 60;
                if (!fits) {
                    break;
                }
            }
            if (fits && now.equals(target)) {
                found.add(number);
            }
        }
        return found;
    }

    private Drawing figure() {
        Drawing drawing = new Drawing();
        for (char letter : word.toCharArray()) {
            drawing.carryOut(commands.get(letter - 'a'));
        }
        return drawing;
    }

    private static final class Drawing {
        private static final double[][] DIRECTIONS = {{1, 0}, {0, 1}, {-1, 0}, {0, -1}};
        private final List<double[]> points = new ArrayList<>();
        private final Set<Set<List<Double>>> segments = new HashSet<>();
        private final ArrayDeque<double[]> held = new ArrayDeque<>();
        private double ink = 0;
        private int deepest = 0;
        private double[] pen = {0, 0, 0, 1};

        Drawing() {
            points.add(new double[] {0, 0});
        }

        void carryOut(String command) {
            switch (command) {
                case "draw" -> {
                    double[] from = pen.clone();
                    goAhead();
                    if (segments.add(Set.of(List.of(from[0], from[1]), List.of(pen[0], pen[1])))) {
                        ink += Math.hypot(pen[0] - from[0], pen[1] - from[1]);
                    }
                }
                case "move" -> goAhead();
                case "left" -> pen[2] = (pen[2] + 1) % 4;
                case "right" -> pen[2] = (pen[2] + 3) % 4;
                case "open" -> {
                    held.push(pen.clone());
                    state(held.size() <= 20);
                    deepest = Math.max(deepest, held.size());
                    pen[3] = pen[3] / 2;
                }
                case "close" -> {
                    state(!held.isEmpty());
                    pen = held.pop();
                }
                default -> {
                }
            }
            points.add(new double[] {pen[0], pen[1]});
        }

        private void goAhead() {
            double[] direction = DIRECTIONS[(int) pen[2]];
            pen[0] = pen[0] + pen[3] * direction[0];
            pen[1] = pen[1] + pen[3] * direction[1];
        }
    }
}
