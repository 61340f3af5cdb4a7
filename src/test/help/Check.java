/** What the tests of the document's edges share: sentences, answers that are due, texts, and objects to ask. */
final class Check {
    static final int UNKNOWN = -1, BAD = -2, LATE = -3, FULL = -4, NONE = -9;
    static final int LOWEST = Integer.MIN_VALUE, HIGHEST = Integer.MAX_VALUE;
    static final long SUM = 1000000000L;
    static final int[] NO_ROUND = {-1, 40, 41, -9, LOWEST, HIGHEST};
    private static int promise = 0;
    private static String sentence = "";
    private static int wrong = 0;

    private Check() {
    }

    /** The sentence of the document (promise 0: of its terms) that the answers behind this belong to. */
    static void says(int number, String words) {
        promise = number;
        sentence = words;
    }

    static void due(String call, long got, long want) {
        if (got != want) {
            wrong++;
            System.out.println("promise " + promise + ", \"" + sentence + "\": " + call + " answered " + got
                + ", due is " + want);
        }
    }

    static void end() {
        System.out.println(wrong == 0 ? "all edges hold" : wrong + " answers are not as due");
        if (wrong != 0) {
            System.exit(1);
        }
    }

    /** The text is this one: few calls, as an object has 512. */
    static void text(PotAndFine x, String text) {
        x.wipe();
        append(x, text);
    }

    static void append(PotAndFine x, String text) {
        for (int at = 0; at < text.length(); at += 8) {
            String some = text.substring(at, Math.min(at + 8, text.length()));
            long v = 0;
            for (int i = 0; i < some.length(); i++) {
                v = v << 8 | some.charAt(i) & 255;
            }
            x.write(some.length(), v);
        }
    }

    static void rule(PotAndFine x, String text) {
        text(x, text);
        due("rule() of " + text + " is taken", x.rule() >= 0 ? 1 : 0, 1);
    }

    static PotAndFine of(String rule, String group) {
        PotAndFine x = new PotAndFine();
        rule(x, rule);
        text(x, group);
        due("group() of " + group + " is taken", x.group() >= 2 ? 1 : 0, 1);
        return x;
    }

    /** What some put in a round, one behind the other from person 0 on. */
    static void tellRound(PotAndFine x, int round, int... coins) {
        for (int person = 0; person < coins.length; person++) {
            x.tell(person, round, coins[person]);
        }
    }

    static int[] noPerson(int size) {
        return new int[] {-1, size, size + 1, 7, -9, LOWEST, HIGHEST};
    }

    static String two(int n) {
        return (n < 10 ? "0" : "") + n;
    }
}
