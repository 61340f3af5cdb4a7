import java.util.Arrays;

/** A pot that is made more and shared evenly, the people who put coins in it, and who fines whom. */
public final class PotAndFine {
    public static final int UNKNOWN = -1, BAD = -2, LATE = -3, FULL = -4, NONE = -9;

    private static final int TEXT_LENGTH = 40;
    private static final int ROUNDS = 40, LAST_ROUND = 39;
    private static final int MOST_PEOPLE = 6, FEWEST_PEOPLE = 2;
    private static final int MOST_COINS = 20;
    private static final int MOST_FINE = 9, MOST_PAID = 9, WHOLE_ANGER = 9;
    private static final int COIN = 600, TENTH = 60;
    private static final long ADDED = 1000000000L;
    private static final int SLOTS = 2;
    private static final int BOOK_ROUNDS = 8;
    private static final int SORTS = 42;

    // The parts of a rule, numbered as ruled() tells them.
    private static final String RULE_LETTERS = "EMFC";
    private static final int COINS = 0, MADE = 1, FINED = 2, COST = 3, RULE_PARTS = 4;
    private static final int[] RULE_DIGITS = {2, 2, 1, 1};
    private static final int[] RULE_LEAST = {1, 0, 0, 1};
    private static final int[] RULE_MOST = {20, 60, 9, 9};
    private static final int[] RULE_ELSE = {20, 16, 0, 1};

    // The letters of people, numbered as person() tells them; d and a of one are read as one number da.
    private static final String PEOPLE_LETTERS = "PZMGSVL";
    private static final int PUTS = 0, NEVER = 1, FINES = 3, SPITEFUL = 4, VENGEFUL = 5, LEARNS = 6;
    private static final int[] PEOPLE_DIGITS = {2, 0, 1, 2, 2, 2, 1};
    private static final int[] PEOPLE_LEAST = {0, 0, 0, 0, 0, 0, 0};
    private static final int[] PEOPLE_MOST = {20, 0, 9, 99, 99, 99, 9};

    private final Text text = new Text();
    private final Grammar ruleGrammar =
        new Grammar(RULE_LETTERS, RULE_DIGITS, RULE_LEAST, RULE_MOST, true, 0, RULE_PARTS);
    private final Grammar groupGrammar =
        new Grammar(PEOPLE_LETTERS, PEOPLE_DIGITS, PEOPLE_LEAST, PEOPLE_MOST, false, FEWEST_PEOPLE, MOST_PEOPLE);
    private final Setup setup = new Setup();
    private final Course course = new Course(setup);
    private final Setup trialSetup = new Setup();
    private final Course trial = new Course(trialSetup);
    private final Book book = new Book();
    private final Kept[] slots = new Kept[SLOTS];
    private boolean stale = true;

    public PotAndFine() {
        for (int slot = 0; slot < SLOTS; slot++) {
            slots[slot] = new Kept();
        }
    }

    // ---- texts

    public int write(int n, long v) {
        if (n < 1 || n > 8) {
            return BAD;
        }
        if (text.length + n > TEXT_LENGTH) {
            return FULL;
        }
        for (int left = n - 1; left >= 0; left--) {
            text.append((int) (v >> (8 * left)) & 255);
        }
        return text.length;
    }

    public int wipe() {
        int was = text.length;
        text.length = 0;
        return was;
    }

    public int fault(boolean group) {
        return text.scan(group ? groupGrammar : ruleGrammar);
    }

    public int rule() {
        if (text.scan(ruleGrammar) != NONE) {
            return LATE;
        }
        setup.takeRuleText(text);
        stale = true;
        return text.found;
    }

    public int group() {
        if (text.scan(groupGrammar) != NONE) {
            return LATE;
        }
        setup.takeGroupText(text);
        setup.untell();
        for (int slot = 0; slot < SLOTS; slot++) {
            slots[slot].filled = false;
        }
        stale = true;
        return setup.size;
    }

    public int ruled(int what) {
        return what < 0 || what >= RULE_PARTS ? BAD : setup.rules[what];
    }

    public int person(int person, int what) {
        if (!isPerson(person)) {
            return UNKNOWN;
        }
        switch (what) {
            case 0:
                return setup.letter[person];
            case 1:
                return setup.amount[person];
            case 2:
                return setup.anger[person];
            default:
                return BAD;
        }
    }

    // ---- what is told

    public int tell(int person, int round, int v) {
        if (!isPerson(person) || !isRound(round)) {
            return UNKNOWN;
        }
        if (!isCoinsOrNone(v)) {
            return BAD;
        }
        int place = placeOf(person, round);
        int was = setup.told[place];
        setup.told[place] = v;
        stale = true;
        return was;
    }

    public int send(int person, int round) {
        if (!isPerson(person)) {
            return UNKNOWN;
        }
        if (round < 0 || round > ROUNDS) {
            return BAD;
        }
        if (round < ROUNDS && !setup.canSpare(person)) {
            return LATE;
        }
        int was = setup.out[person];
        setup.out[person] = round;
        stale = true;
        return was;
    }

    public int fine(int f) {
        if (f < 0 || f > MOST_FINE) {
            return BAD;
        }
        int was = setup.rules[FINED];
        setup.rules[FINED] = f;
        stale = true;
        return was;
    }

    // ---- rounds

    public int put(int person, int round) {
        if (!isPerson(person) || !isRound(round)) {
            return UNKNOWN;
        }
        return ran().puts[placeOf(person, round)];
    }

    public int paid(int person, int other, int round) {
        if (!isPerson(person) || !isPerson(other) || !isRound(round)) {
            return UNKNOWN;
        }
        if (person == other) {
            return BAD;
        }
        return ran().payments[paymentOf(person, other, round)];
    }

    public int pot(int round) {
        return isRound(round) ? ran().pots[round] : UNKNOWN;
    }

    public int here(int round) {
        return isRound(round) ? setup.countIn(round) : UNKNOWN;
    }

    public long holds(int person, int round) {
        if (!isPerson(person) || !isRound(round)) {
            return UNKNOWN;
        }
        return ADDED + ran().held[placeOf(person, round)];
    }

    public long all(int round, boolean without) {
        if (!isRound(round)) {
            return UNKNOWN;
        }
        Course told = without ? ranWithFine(0) : ran();
        return ADDED + told.heldByAll(round);
    }

    public int lost(int person, int round) {
        if (!isPerson(person) || !isRound(round)) {
            return UNKNOWN;
        }
        return ran().losses[placeOf(person, round)];
    }

    // ---- what it comes to

    public int fall() {
        Course own = ran();
        if (own.pots[0] == 0) {
            return NONE;
        }
        for (int round = 1; round < ROUNDS; round++) {
            if (2 * own.pots[round] <= own.pots[0]) {
                return round;
            }
        }
        return NONE;
    }

    public int pays() {
        Course own = ran();
        Course fineless = ranWithFine(0);
        int first = NONE;
        for (int round = LAST_ROUND; round >= 0; round--) {
            if (own.heldByAll(round) <= fineless.heldByAll(round)) {
                return first;
            }
            first = round;
        }
        return first;
    }

    public int vote(int round) {
        if (!isRound(round)) {
            return UNKNOWN;
        }
        Course own = ran();
        Course fineless = ranWithFine(0);
        int bits = 0;
        for (int person = 0; person < setup.size; person++) {
            int place = placeOf(person, round);
            if (own.held[place] > fineless.held[place]) {
                bits |= 1 << person;
            }
        }
        return bits;
    }

    public int least(int round, int x) {
        if (!isRound(round)) {
            return UNKNOWN;
        }
        if (x < 0 || x > MOST_COINS) {
            return BAD;
        }
        int wanted = x * setup.countIn(round);
        for (int f = 0; f <= MOST_FINE; f++) {
            if (ranWithFine(f).pots[round] >= wanted) {
                return f;
            }
        }
        return NONE;
    }

    public int leader() {
        int best = 0;
        long most = 0;
        for (int person = 0; person < setup.size; person++) {
            long held = heldIfLedBy(person);
            if (person == 0 || held > most) {
                best = person;
                most = held;
            }
        }
        return best;
    }

    public long led() {
        long most = heldIfLedBy(0);
        for (int person = 1; person < setup.size; person++) {
            most = Math.max(most, heldIfLedBy(person));
        }
        return ADDED + most;
    }

    public int whom() {
        int best = LATE;
        long most = 0;
        for (int person = 0; person < setup.size; person++) {
            if (setup.canSpare(person)) {
                long held = heldIfOut(person);
                if (best == LATE || held > most) {
                    best = person;
                    most = held;
                }
            }
        }
        return best;
    }

    public long without(int person) {
        if (!isPerson(person)) {
            return UNKNOWN;
        }
        return setup.canSpare(person) ? ADDED + heldIfOut(person) : LATE;
    }

    public int part() {
        if (!canBeHalved()) {
            return LATE;
        }
        int best = firstHalf();
        long most = heldByHalves(best);
        for (int bits = best + 2; bits < 1 << setup.size; bits += 2) {
            long held = isHalf(bits) ? heldByHalves(bits) : most;
            if (held > most) {
                best = bits;
                most = held;
            }
        }
        return best;
    }

    public long parted() {
        if (!canBeHalved()) {
            return LATE;
        }
        long most = heldByHalves(firstHalf());
        for (int bits = firstHalf() + 2; bits < 1 << setup.size; bits += 2) {
            if (isHalf(bits)) {
                most = Math.max(most, heldByHalves(bits));
            }
        }
        return ADDED + most;
    }

    public int reply(int person, int round) {
        if (!isPerson(person) || !isRound(round)) {
            return UNKNOWN;
        }
        return setup.isIn(person, round) ? ran().bestPut(person, round) : LATE;
    }

    public long gain(int person, int round, int put) {
        if (!isPerson(person) || !isRound(round)) {
            return UNKNOWN;
        }
        if (put < 0 || put > setup.rules[COINS]) {
            return BAD;
        }
        return setup.isIn(person, round) ? ADDED + ran().gotBy(person, round, put) : LATE;
    }

    public int rest(int round) {
        if (!isRound(round)) {
            return UNKNOWN;
        }
        return ran().isAtRest(round) ? 1 : 0;
    }

    // ---- the book

    public int note(int person, int round, int v) {
        if (!isBookPerson(person) || !isBookRound(round)) {
            return UNKNOWN;
        }
        if (!isCoinsOrNone(v)) {
            return BAD;
        }
        int place = bookPlaceOf(person, round);
        int was = book.places[place];
        book.places[place] = v;
        return was;
    }

    public int would(int sort, int person, int round) {
        if (!isBookPerson(person) || !isBookRound(round)) {
            return UNKNOWN;
        }
        return isSort(sort) ? book.toldBy(sort, person, round) : BAD;
    }

    public int slips(int sort, int person) {
        if (!isBookPerson(person)) {
            return UNKNOWN;
        }
        return isSort(sort) ? book.countSlips(sort, person) : BAD;
    }

    public int sort(int person) {
        return isBookPerson(person) ? book.bestSort(person) : UNKNOWN;
    }

    public int sorts(int person, int n) {
        if (!isBookPerson(person)) {
            return UNKNOWN;
        }
        return n < 0 || n > BOOK_ROUNDS ? BAD : book.countSorts(person, n);
    }

    public int copy() {
        Course own = ran();
        Arrays.fill(book.places, NONE);
        for (int person = 0; person < setup.size; person++) {
            for (int round = 0; round < BOOK_ROUNDS; round++) {
                book.places[bookPlaceOf(person, round)] = own.puts[placeOf(person, round)];
            }
        }
        return countTold(book.places);
    }

    // ---- slots

    public int keep(int slot) {
        if (!isSlot(slot)) {
            return UNKNOWN;
        }
        slots[slot].fillFrom(setup, book);
        return countTold(setup.told);
    }

    public int again(int slot) {
        if (!isSlot(slot)) {
            return UNKNOWN;
        }
        if (!slots[slot].filled) {
            return LATE;
        }
        slots[slot].giveBack(setup, book);
        stale = true;
        return countTold(setup.told);
    }

    public int count(int what) {
        switch (what) {
            case 0:
                return setup.size;
            case 1:
                return countTold(setup.told);
            case 2:
                return setup.size - setup.countIn(LAST_ROUND);
            case 3:
                return countTold(book.places);
            case 4:
                return text.length;
            default:
                return BAD;
        }
    }

    // ---- what is asked of arguments

    private boolean isPerson(int person) {
        return person >= 0 && person < setup.size;
    }

    private static boolean isRound(int round) {
        return round >= 0 && round < ROUNDS;
    }

    private static boolean isSlot(int slot) {
        return slot >= 0 && slot < SLOTS;
    }

    private static boolean isCoinsOrNone(int v) {
        return v == NONE || v >= 0 && v <= MOST_COINS;
    }

    private static boolean isBookPerson(int person) {
        return person >= 0 && person < MOST_PEOPLE;
    }

    private static boolean isBookRound(int round) {
        return round >= 0 && round < BOOK_ROUNDS;
    }

    private static boolean isSort(int sort) {
        return sort == 0 || sort >= 100 && sort <= 120 || sort >= 200 && sort <= 209 || sort >= 300 && sort <= 309;
    }

    // ---- places in rows

    private static int placeOf(int person, int round) {
        return round * MOST_PEOPLE + person;
    }

    private static int paymentOf(int payer, int other, int round) {
        return (round * MOST_PEOPLE + payer) * MOST_PEOPLE + other;
    }

    private static int bookPlaceOf(int person, int round) {
        return person * BOOK_ROUNDS + round;
    }

    private static int countTold(int[] row) {
        int told = 0;
        for (int i = 0; i < row.length; i++) {
            if (row[i] != NONE) {
                told++;
            }
        }
        return told;
    }

    private static int meanOf(int sum, int count) {
        return count > 0 ? sum / count : 0;
    }

    // ---- courses that are run for a question

    private Course ran() {
        if (stale) {
            course.runAll();
            stale = false;
        }
        return course;
    }

    private Course ranWithFine(int f) {
        trialSetup.takeFrom(setup);
        trialSetup.rules[FINED] = f;
        trial.runAll();
        return trial;
    }

    private long heldIfLedBy(int person) {
        trialSetup.takeFrom(setup);
        trialSetup.told[placeOf(person, 0)] = setup.rules[COINS];
        trial.runAll();
        return trial.heldByAll(LAST_ROUND);
    }

    // Who is out from the first round on holds nothing, so all together are all others.
    private long heldIfOut(int person) {
        trialSetup.takeFrom(setup);
        trialSetup.out[person] = 0;
        trial.runAll();
        return trial.heldByAll(LAST_ROUND);
    }

    private boolean canBeHalved() {
        return setup.size == 4 || setup.size == 6;
    }

    private boolean isHalf(int bits) {
        return 2 * Integer.bitCount(bits) == setup.size;
    }

    // The half of the lowest numbers; all others that have person 0 are greater and odd.
    private int firstHalf() {
        return (1 << setup.size / 2) - 1;
    }

    private long heldByHalves(int bits) {
        trialSetup.takeSome(setup, bits);
        trial.runAll();
        long held = trial.heldByAll(LAST_ROUND);
        trialSetup.takeSome(setup, ~bits);
        trial.runAll();
        return held + trial.heldByAll(LAST_ROUND);
    }

    /** What texts of one kind are made of: parts of a letter and digits that stand for a number. */
    private static final class Grammar {
        final String letters;
        final int[] digits;
        final int[] least;
        final int[] most;
        final boolean eachOnce;
        final int fewestParts;
        final int mostParts;

        Grammar(String letters, int[] digits, int[] least, int[] most,
                boolean eachOnce, int fewestParts, int mostParts) {
            this.letters = letters;
            this.digits = digits;
            this.least = least;
            this.most = most;
            this.eachOnce = eachOnce;
            this.fewestParts = fewestParts;
            this.mostParts = mostParts;
        }
    }

    /** The text, and the parts that the last scan found in it. */
    private static final class Text {
        final int[] bytes = new int[TEXT_LENGTH];
        int length = 0;
        final int[] letters = new int[MOST_PEOPLE];
        final int[] numbers = new int[MOST_PEOPLE];
        int found = 0;

        void append(int value) {
            if (length < TEXT_LENGTH) {
                bytes[length] = value;
                length++;
            }
        }

        /** The place of the first fault, or NONE; then the parts stand in letters and numbers. */
        int scan(Grammar grammar) {
            found = 0;
            int at = 0;
            for (int part = 0; part <= grammar.mostParts && at < length; part++) {
                int letter = grammar.letters.indexOf((char) bytes[at]);
                if (part == grammar.mostParts || letter < 0 || grammar.eachOnce && wasFound(letter)) {
                    return at;
                }
                int wrong = scanNumber(grammar, letter, at + 1, part);
                if (wrong != NONE) {
                    return wrong;
                }
                letters[part] = letter;
                found = part + 1;
                at += 1 + grammar.digits[letter];
            }
            return found < grammar.fewestParts ? length : NONE;
        }

        private boolean wasFound(int letter) {
            for (int part = 0; part < found; part++) {
                if (letters[part] == letter) {
                    return true;
                }
            }
            return false;
        }

        // A digit is wrong as soon as no digits behind it could bring the number between its bounds.
        private int scanNumber(Grammar grammar, int letter, int from, int part) {
            int digits = grammar.digits[letter];
            int number = 0;
            for (int i = 0; i < digits; i++) {
                int at = from + i;
                if (at >= length) {
                    return length;
                }
                int digit = bytes[at] - '0';
                if (digit < 0 || digit > 9) {
                    return at;
                }
                number = number * 10 + digit;
                int scale = i + 1 < digits ? 10 : 1;
                if (number * scale > grammar.most[letter] || number * scale + scale - 1 < grammar.least[letter]) {
                    return at;
                }
            }
            numbers[part] = number;
            return NONE;
        }
    }

    /** All by which a course is determined: the rule, the people, what is told, who is out. */
    private static final class Setup {
        final int[] rules = new int[RULE_PARTS];
        int size = FEWEST_PEOPLE;
        final int[] letter = new int[MOST_PEOPLE];
        final int[] amount = new int[MOST_PEOPLE];
        final int[] anger = new int[MOST_PEOPLE];
        final int[] told = new int[ROUNDS * MOST_PEOPLE];
        final int[] out = new int[MOST_PEOPLE];

        Setup() {
            System.arraycopy(RULE_ELSE, 0, rules, 0, RULE_PARTS);
            Arrays.fill(letter, NEVER);
            Arrays.fill(told, NONE);
            Arrays.fill(out, ROUNDS);
        }

        void takeRuleText(Text text) {
            System.arraycopy(RULE_ELSE, 0, rules, 0, RULE_PARTS);
            for (int part = 0; part < text.found; part++) {
                rules[text.letters[part]] = text.numbers[part];
            }
        }

        void takeGroupText(Text text) {
            size = text.found;
            for (int person = 0; person < size; person++) {
                int number = text.numbers[person];
                letter[person] = text.letters[person];
                boolean angry = canBeAngry(letter[person]);
                amount[person] = angry ? number / 10 : number;
                anger[person] = angry ? number % 10 : 0;
            }
        }

        private static boolean canBeAngry(int letter) {
            return letter == FINES || letter == SPITEFUL || letter == VENGEFUL;
        }

        void untell() {
            Arrays.fill(told, NONE);
            Arrays.fill(out, ROUNDS);
        }

        void takeFrom(Setup other) {
            System.arraycopy(other.rules, 0, rules, 0, RULE_PARTS);
            System.arraycopy(other.letter, 0, letter, 0, MOST_PEOPLE);
            System.arraycopy(other.amount, 0, amount, 0, MOST_PEOPLE);
            System.arraycopy(other.anger, 0, anger, 0, MOST_PEOPLE);
            System.arraycopy(other.told, 0, told, 0, told.length);
            System.arraycopy(other.out, 0, out, 0, MOST_PEOPLE);
            size = other.size;
        }

        void takeSome(Setup whole, int bits) {
            System.arraycopy(whole.rules, 0, rules, 0, RULE_PARTS);
            untell();
            size = 0;
            for (int person = 0; person < whole.size; person++) {
                if ((bits >> person & 1) == 1) {
                    letter[size] = whole.letter[person];
                    amount[size] = whole.amount[person];
                    anger[size] = whole.anger[person];
                    size++;
                }
            }
        }

        boolean isIn(int person, int round) {
            return round < out[person];
        }

        int countIn(int round) {
            int in = 0;
            for (int person = 0; person < size; person++) {
                if (isIn(person, round)) {
                    in++;
                }
            }
            return in;
        }

        // Nobody comes back, so the last round is the one with the fewest.
        boolean canSpare(int person) {
            int others = countIn(LAST_ROUND) - (isIn(person, LAST_ROUND) ? 1 : 0);
            return others >= FEWEST_PEOPLE;
        }
    }

    /** The rounds of a setup: what each put, paid, lost and holds behind each of them. */
    private static final class Course {
        final Setup setup;
        final int[] puts = new int[ROUNDS * MOST_PEOPLE];
        final int[] payments = new int[ROUNDS * MOST_PEOPLE * MOST_PEOPLE];
        final int[] losses = new int[ROUNDS * MOST_PEOPLE];
        final long[] held = new long[ROUNDS * MOST_PEOPLE];
        final int[] pots = new int[ROUNDS];
        // What is put in the round that is looked at, be it so or only supposed; NONE of who is out.
        private final int[] now = new int[MOST_PEOPLE];
        private int nowPot = 0;
        private int nowIn = 0;
        private int nowMean = 0;

        Course(Setup setup) {
            this.setup = setup;
        }

        void runAll() {
            for (int round = 0; round < ROUNDS; round++) {
                putAll(round);
                lookAt(round, NONE, 0);
                pots[round] = nowPot;
                payAll(round);
                settleAll(round);
            }
        }

        long heldByAll(int round) {
            long sum = 0;
            for (int person = 0; person < setup.size; person++) {
                sum += held[placeOf(person, round)];
            }
            return sum;
        }

        /** What one would get in a round by a put, all others putting as they did. */
        long gotBy(int person, int round, int supposed) {
            lookAt(round, person, supposed);
            long loss = 0;
            for (int other = 0; other < setup.size; other++) {
                loss += lossBetween(dueFrom(person, other, round), dueFrom(other, person, round));
            }
            return gotFromPot(person) - COIN * loss;
        }

        int bestPut(int person, int round) {
            int best = 0;
            long most = gotBy(person, round, 0);
            for (int supposed = 1; supposed <= setup.rules[COINS]; supposed++) {
                long got = gotBy(person, round, supposed);
                if (got > most) {
                    best = supposed;
                    most = got;
                }
            }
            return best;
        }

        boolean isAtRest(int round) {
            for (int person = 0; person < setup.size; person++) {
                if (setup.isIn(person, round)) {
                    long best = gotBy(person, round, bestPut(person, round));
                    if (best > gotBy(person, round, puts[placeOf(person, round)])) {
                        return false;
                    }
                }
            }
            return true;
        }

        private void putAll(int round) {
            for (int person = 0; person < setup.size; person++) {
                int coins = NONE;
                if (setup.isIn(person, round)) {
                    int told = setup.told[placeOf(person, round)];
                    int wanted = told == NONE ? usualPut(person, round) : told;
                    coins = Math.max(0, Math.min(wanted, setup.rules[COINS]));
                }
                puts[placeOf(person, round)] = coins;
            }
        }

        private int usualPut(int person, int round) {
            int letter = setup.letter[person];
            if (letter == PUTS) {
                return setup.amount[person];
            }
            if (letter == NEVER) {
                return 0;
            }
            if (round < 1) {
                return setup.rules[COINS] / 2;
            }
            if (letter != LEARNS) {
                return meanOfOthersBefore(person, round) - setup.amount[person];
            }
            int before = puts[placeOf(person, round - 1)];
            int fines = setup.rules[FINED] * paidToFine(person, round - 1);
            return fines > 0 ? before + fines : before - setup.amount[person];
        }

        private int meanOfOthersBefore(int person, int round) {
            int sum = 0;
            int count = 0;
            for (int other = 0; other < setup.size; other++) {
                if (other != person && setup.isIn(other, round)) {
                    sum += puts[placeOf(other, round - 1)];
                    count++;
                }
            }
            return meanOf(sum, count);
        }

        private int paidToFine(int person, int round) {
            int sum = 0;
            for (int payer = 0; payer < setup.size; payer++) {
                sum += payments[paymentOf(payer, person, round)];
            }
            return sum;
        }

        private int paidBy(int person, int round) {
            int sum = 0;
            for (int other = 0; other < setup.size; other++) {
                sum += payments[paymentOf(person, other, round)];
            }
            return sum;
        }

        // One person's put may be only supposed (NONE: nobody's).
        private void lookAt(int round, int supposing, int supposed) {
            nowPot = 0;
            nowIn = 0;
            for (int person = 0; person < setup.size; person++) {
                now[person] = person == supposing ? supposed : puts[placeOf(person, round)];
                if (now[person] != NONE) {
                    nowPot += now[person];
                    nowIn++;
                }
            }
            nowMean = meanOf(nowPot, nowIn);
        }

        private void payAll(int round) {
            for (int payer = 0; payer < setup.size; payer++) {
                for (int other = 0; other < setup.size; other++) {
                    payments[paymentOf(payer, other, round)] = dueFrom(payer, other, round);
                }
            }
        }

        private void settleAll(int round) {
            for (int person = 0; person < setup.size; person++) {
                int place = placeOf(person, round);
                long got = 0;
                int loss = 0;
                if (now[person] != NONE) {
                    loss = lossBetween(paidBy(person, round), paidToFine(person, round));
                    got = gotFromPot(person) - (long) COIN * loss;
                }
                held[place] = got + (round > 0 ? held[placeOf(person, round - 1)] : 0);
                losses[place] = loss + (round > 0 ? losses[placeOf(person, round - 1)] : 0);
            }
        }

        private int lossBetween(int pays, int fined) {
            return setup.rules[COST] * pays + setup.rules[FINED] * fined;
        }

        // 60 parts, a tenth of a coin, can be shared evenly by 2 to 6, so nothing is cut.
        private long gotFromPot(int person) {
            int left = setup.rules[COINS] - now[person];
            int share = meanOf(nowPot * setup.rules[MADE] * TENTH, nowIn);
            return (long) COIN * left + share;
        }

        /** What one pays to fine another one, by what is put now. */
        private int dueFrom(int payer, int other, int round) {
            if (setup.rules[FINED] <= 0 || payer == other || now[payer] == NONE || now[other] == NONE) {
                return 0;
            }
            switch (setup.letter[payer]) {
                case FINES:
                    return byAnger(payer, nowMean - now[other]);
                case SPITEFUL:
                    return other == greatestBeside(payer) ? byAnger(payer, now[other] - nowMean) : 0;
                case VENGEFUL:
                    int before = round > 0 ? payments[paymentOf(other, payer, round - 1)] : 0;
                    return Math.min(MOST_PAID, byAnger(payer, nowMean - now[other]) + before);
                default:
                    return 0;
            }
        }

        private int byAnger(int payer, int difference) {
            return difference > 0 ? Math.min(MOST_PAID, difference * setup.anger[payer] / WHOLE_ANGER) : 0;
        }

        private int greatestBeside(int payer) {
            int best = NONE;
            for (int other = 0; other < setup.size; other++) {
                if (other != payer && now[other] != NONE && (best == NONE || now[other] > now[best])) {
                    best = other;
                }
            }
            return best;
        }
    }

    /** The book of what some put, and what sorts tell of it. */
    private static final class Book {
        final int[] places = new int[MOST_PEOPLE * BOOK_ROUNDS];

        Book() {
            Arrays.fill(places, NONE);
        }

        int toldBy(int sort, int person, int round) {
            int kind = sort / 100;
            int number = sort % 100;
            if (kind < 2) {
                return number;
            }
            if (round < 1) {
                return NONE;
            }
            int before = kind == 2 ? meanOfOthers(person, round - 1) : places[bookPlaceOf(person, round - 1)];
            return before == NONE ? NONE : Math.max(0, before - number);
        }

        int countSlips(int sort, int person) {
            int slipped = 0;
            for (int round = 0; round < BOOK_ROUNDS; round++) {
                int noted = places[bookPlaceOf(person, round)];
                int expected = toldBy(sort, person, round);
                if (noted != NONE && expected != NONE && noted != expected) {
                    slipped++;
                }
            }
            return slipped;
        }

        int bestSort(int person) {
            int best = 0;
            int fewest = countSlips(0, person);
            for (int i = 1; i < SORTS; i++) {
                int slipped = countSlips(sortNumbered(i), person);
                if (slipped < fewest) {
                    best = sortNumbered(i);
                    fewest = slipped;
                }
            }
            return best;
        }

        int countSorts(int person, int n) {
            int found = 0;
            for (int i = 0; i < SORTS; i++) {
                if (countSlips(sortNumbered(i), person) <= n) {
                    found++;
                }
            }
            return found;
        }

        // Never, then 21 that put as much always, then 10 that match, then 10 that stay.
        private static int sortNumbered(int i) {
            if (i < 1) {
                return 0;
            }
            if (i < 22) {
                return 100 + i - 1;
            }
            return i < 32 ? 200 + i - 22 : 300 + i - 32;
        }

        private int meanOfOthers(int person, int round) {
            int sum = 0;
            int count = 0;
            for (int other = 0; other < MOST_PEOPLE; other++) {
                int noted = places[bookPlaceOf(other, round)];
                if (other != person && noted != NONE) {
                    sum += noted;
                    count++;
                }
            }
            return count > 0 ? meanOf(sum, count) : NONE;
        }
    }

    /** What a slot keeps. */
    private static final class Kept {
        boolean filled = false;
        private final int[] told = new int[ROUNDS * MOST_PEOPLE];
        private final int[] out = new int[MOST_PEOPLE];
        private final int[] places = new int[MOST_PEOPLE * BOOK_ROUNDS];

        void fillFrom(Setup setup, Book book) {
            System.arraycopy(setup.told, 0, told, 0, told.length);
            System.arraycopy(setup.out, 0, out, 0, out.length);
            System.arraycopy(book.places, 0, places, 0, places.length);
            filled = true;
        }

        void giveBack(Setup setup, Book book) {
            System.arraycopy(told, 0, setup.told, 0, told.length);
            System.arraycopy(out, 0, setup.out, 0, out.length);
            System.arraycopy(places, 0, book.places, 0, places.length);
        }
    }
}
