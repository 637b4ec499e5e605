import java.util.Random;
import java.util.TreeSet;

/** Promises 16 to 38 on random systems that are made for them: the answers of a plain model are due. */
final class RandomSystemsTest {
    private static final int SYSTEMS = 1500;
    private static final String[] NAMES = {"draw", "move", "left", "right", "open", "close", "skip"};

    private final Random random;
    private final Pair pair = new Pair();

    private RandomSystemsTest(long seed) {
        // seeds that follow one another would give nearly the same first numbers
        random = new Random(seed * 0x9E3779B97F4A7C15L);
    }

    public static void main(String[] args) {
        for (long seed = 0; seed < SYSTEMS; seed++) {
            RandomSystemsTest test = new RandomSystemsTest(seed);
            switch ((int) (seed % 4)) {
                case 0 -> test.growth();
                case 1 -> test.choices();
                case 2 -> test.sequences();
                default -> test.figures();
            }
            if (test.pair.isWrong()) {
                break;
            }
        }
        sawEnough();
        Checks.finish();
    }

    /** A test whose systems never answered these would prove little. */
    private static void sawEnough() {
        sawAll("growthKind", "0", "1", "2", "3");
        sawAll("growthDegree", "0", "1", "2", "3", "4", "5");
        sawAll("recurrenceOrder", "0", "1", "2", "3", "4", "5", "6");
        sawAll("lengthAfter", "java.lang.ArithmeticException");
        sawAll("ways", "0", "1", "java.lang.ArithmeticException");
        sawAll("segmentCount", "0", "1", "java.lang.IllegalStateException");
        sawAll("openDepth", "0", "1", "2", "3", "20");
        sawAll("stepsToAdult", "0", "1", "2", "3", "java.util.NoSuchElementException");
        Checks.yes("many numbers of adult words", Pair.SEEN.get("adultWords").size() > 50);
        Checks.yes("many first sequences", Pair.SEEN.get("firstSequence").size() > 50);
        Checks.yes("many remainders", Pair.SEEN.get("remainder").size() > 50);
    }

    private static void sawAll(String method, String... answers) {
        TreeSet<String> seen = Pair.SEEN.get(method);
        for (String answer : answers) {
            Checks.yes(method + " answered " + answer, seen.contains(answer));
        }
    }

    private String randomWord(int length, String letters) {
        StringBuilder word = new StringBuilder();
        for (int i = 0; i < length; i++) {
            word.append(letters.charAt(random.nextInt(letters.length())));
        }
        return word.toString();
    }

    private void set(String method, String text, Object... arguments) {
        pair.type(text);
        pair.call(method, arguments);
    }

    private void growth() {
        int flavour = random.nextInt(4);
        for (int letter = 0; letter < 6; letter++) {
            set("setProduction", growing(flavour, letter), 0, letter);
        }
        for (int i = 0; i < 4; i++) {
            set("setWord", randomWord(random.nextInt(i == 3 ? 61 : 3), "abcdef"));
            pair.call("growthKind", 0);
            pair.call("growthDegree", 0);
            pair.call("recurrenceOrder", 0);
            for (int number = 0; number <= 7; number++) {
                pair.call("recurrenceCoefficient", 0, number);
            }
            for (int steps : new int[] {0, 1, 2, 20, 62, 63, random.nextInt(200), 1000}) {
                pair.call("lengthAfter", 0, steps);
                pair.call("countAfter", 0, steps, random.nextInt(6));
            }
        }
    }

    /** Letters that make themselves and lower ones, a ring with sheddings, or any letters. */
    private String growing(int flavour, int letter) {
        String all = "abcdef";
        String self = all.substring(letter, letter + 1);
        String lower = all.substring(0, Math.max(letter, 1));
        switch (flavour) {
            case 0:
                return self + (letter == 0 ? "" : all.substring(letter - 1, letter) + randomWord(random.nextInt(2), lower));
            case 1:
                return (random.nextInt(3) == 0 ? "" : self) + (letter == 0 ? "" : randomWord(random.nextInt(3), lower));
            case 2:
                return all.substring((letter + 1) % 6, (letter + 1) % 6 + 1) + randomWord(random.nextInt(5) / 4, all);
            default:
                return randomWord(random.nextInt(random.nextBoolean() ? 3 : 5), all);
        }
    }

    private void choices() {
        String letters = "abcdef".substring(0, 1 + random.nextInt(4));
        for (int letter = 0; letter < letters.length(); letter++) {
            String first = random.nextInt(3) > 0 ? letters.substring(letter, letter + 1)
                    : randomWord(random.nextInt(3), letters);
            set("setProduction", first, 1, letter);
            for (int more = random.nextInt(3); more > 0; more--) {
                set("addProduction", random.nextInt(3) > 0 ? first : randomWord(random.nextInt(4), letters), 1, letter);
            }
        }
        for (int rules = random.nextInt(7); rules > 0; rules--) {
            set("setContextRule", randomWord(random.nextInt(3), letters), 1,
                    random.nextInt(letters.length()), random.nextInt(letters.length()));
        }
        pair.call("adultWords", 1, 3);
        pair.call("adultWords", 1, 4);
        for (int i = 0; i < 3; i++) {
            String word = randomWord(random.nextInt(i == 2 ? 61 : 7), letters);
            set("setWord", word);
            pair.call("isAdult", 1);
            pair.call("step", 1, random.nextInt());
            StringBuilder reached = new StringBuilder();
            int length = (Integer) pair.call("wordLength");
            for (int k = 0; k < length; k++) {
                reached.append((char) ('a' + (Integer) pair.call("wordLetter", k)));
            }
            set("setTarget", reached.toString());
            pair.call("isTarget");
            pair.call("undo");
            pair.call("ways", 1);
            pair.call("ways", 0);
        }
    }

    private void sequences() {
        String letters = "abc";
        for (int table = 0; table < 3; table++) {
            for (int letter = 0; letter < 3; letter++) {
                if (random.nextInt(3) > 0) {
                    set("setProduction", randomWord(1 + random.nextInt(5) / 3, letters), table, letter);
                }
            }
            for (int rules = random.nextInt(3); rules > 0; rules--) {
                set("setContextRule", randomWord(random.nextInt(3), letters), table, random.nextInt(3), random.nextInt(3));
            }
        }
        set("setWord", randomWord(random.nextInt(6) == 0 ? 30 : 1 + random.nextInt(5), letters));
        StringBuilder reached = new StringBuilder();
        pair.call("save");
        for (int i = 1 + random.nextInt(5); i > 0; i--) {
            pair.call("step", random.nextInt(3), 0);
        }
        int length = (Integer) pair.call("wordLength");
        for (int k = 0; k < length; k++) {
            reached.append((char) ('a' + (Integer) pair.call("wordLetter", k)));
        }
        pair.call("restore");
        set("setTarget", reached.toString());
        for (int steps = 0; steps <= 5; steps++) {
            pair.call("sequenceCount", steps);
            pair.call("firstSequence", steps);
        }
        for (int table = 0; table < 3; table++) {
            pair.call("stepsToAdult", table, 50);
            pair.call("stepsToAdult", table, random.nextInt(4));
            pair.call("adultWords", table, random.nextInt(5));
        }
    }

    private void figures() {
        for (int letter = 0; letter < 6; letter++) {
            set("setCommand", random.nextInt(8) == 0 ? NAMES[random.nextInt(7)] : NAMES[letter], letter);
        }
        for (int i = 0; i < 3; i++) {
            String deep = "e".repeat(random.nextInt(4) == 0 ? 15 + random.nextInt(7) : 0);
            String flat = randomWord(random.nextInt(30), "aaabccd");
            String word = flat + deep + randomWord(random.nextInt(61 - flat.length() - deep.length()), "aabccdeff");
            set("setWord", random.nextBoolean() ? flat + deep + "aba" : word);
            pair.call("segmentCount");
            pair.call("inkLength");
            pair.call("openDepth");
            for (int side = 0; side < 4; side++) {
                pair.call("extent", side);
            }
            pair.call("keepPoints", 0, true);
            Object size = pair.call("keepPoints", 1, false);
            int elements = size instanceof Integer number ? number : 2;
            for (int k = 0; k < 20; k++) {
                pair.call("remainder", k % 2, random.nextInt(elements), random.nextInt(elements));
            }
        }
    }
}
