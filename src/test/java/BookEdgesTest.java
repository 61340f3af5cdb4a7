/** The edges that the document names of the book and the slots: part 4 of its terms, promises 32 to 40. */
public final class BookEdgesTest {
    private static final int UNKNOWN = Check.UNKNOWN, BAD = Check.BAD, LATE = Check.LATE, NONE = Check.NONE;
    private static final int[] NO_PERSON = {-1, 6, 7, -9, Check.LOWEST, Check.HIGHEST};
    private static final int[] NO_ROUND = {-1, 8, 9, 39, 40, -9, Check.LOWEST, Check.HIGHEST};
    private static final int[] NO_SORT = {-1, 1, 9, 20, 99, 121, 199, 210, 299, 310, 400, 1000, -9, -100, -200, -300,
        Check.LOWEST, Check.HIGHEST};

    public static void main(String[] args) {
        notesWhatIsTaken();
        notesWhatIsRefused();
        notesOfAllPlaces();
        allSorts();
        puttingAndNever();
        matchingMeans();
        matchingOneAtLeast();
        matchingLess();
        staying();
        tellingOfRoundNought();
        tellingOfTheLastRound();
        wouldIsRefused();
        slipsNoneAndAll();
        slipsAtToldPlacesAlone();
        slipsIsRefused();
        sortOfNothing();
        sortOfLikeOnes();
        sortWithFewest();
        sortIsRefused();
        sortsByHowMany();
        sortsIsRefused();
        copiesOfTwoToSix();
        copiesOfEightRounds();
        copiesOfWhoIsOut();
        copiesInsteadOfWhatWas();
        keepsNothing();
        keepsAll();
        keepsInPlaceOfOlder();
        slotsAreTheirOwn();
        slotsAreRefused();
        notKept();
        counts();
        countIsRefused();
        Check.end();
    }

    private static void due(String call, long got, long want) {
        Check.due(call, got, want);
    }

    private static void noteRow(PotAndFine x, int person, int... coins) {
        for (int round = 0; round < coins.length; round++) {
            x.note(person, round, coins[round]);
        }
    }

    // -- promise 32

    private static void notesWhatIsTaken() {
        Check.says(32, "A place of THE BOOK: what was told; v (0 .. 20, NONE)");
        PotAndFine x = new PotAndFine();
        for (int[] place : new int[][] {{0, 0}, {5, 7}, {0, 7}, {5, 0}}) {
            int before = NONE;
            for (int v = 0; v <= 20; v++) {
                due("note(.., " + v + ")", x.note(place[0], place[1], v), before);
                due("count(3)", x.count(3), 1);
                before = v;
            }
            due("note(.., NONE)", x.note(place[0], place[1], NONE), 20);
            due("note(.., NONE) again", x.note(place[0], place[1], NONE), NONE);
            due("count(3)", x.count(3), 0);
        }
    }

    private static void notesWhatIsRefused() {
        Check.says(32, "UNKNOWN: person (0 .. 5), round (0 .. 7); BAD: v (0 .. 20, NONE)");
        PotAndFine x = new PotAndFine();
        x.note(0, 0, 7);
        for (int person : NO_PERSON) {
            due("note(" + person + ", 0, 5)", x.note(person, 0, 5), UNKNOWN);
            due("note(" + person + ", 0, 21)", x.note(person, 0, 21), UNKNOWN);
            due("note(" + person + ", 8, NONE)", x.note(person, 8, NONE), UNKNOWN);
        }
        for (int round : NO_ROUND) {
            due("note(0, " + round + ", 5)", x.note(0, round, 5), UNKNOWN);
            due("note(0, " + round + ", 21)", x.note(0, round, 21), UNKNOWN);
        }
        for (int v : new int[] {-1, 21, -2, -8, -10, 22, Check.LOWEST, Check.HIGHEST}) {
            due("note(0, 0, " + v + ")", x.note(0, 0, v), BAD);
            due("note(5, 7, " + v + ")", x.note(5, 7, v), BAD);
        }
        due("count(3)", x.count(3), 1);
        due("note(0, 0, NONE)", x.note(0, 0, NONE), 7);
        due("note(5, 7, NONE)", x.note(5, 7, NONE), NONE);
    }

    private static void notesOfAllPlaces() {
        Check.says(32, "some PEOPLE 0 .. 5 in ROUNDS 0 .. 7: all places");
        PotAndFine x = new PotAndFine();
        for (int person = 0; person < 6; person++) {
            for (int round = 0; round < 8; round++) {
                due("note", x.note(person, round, (5 * person + round) % 21), NONE);
            }
        }
        due("count(3)", x.count(3), 48);
        due("keep(1)", x.keep(1), 0);
        due("again(1)", x.again(1), 0);
        for (int person = 0; person < 6; person++) {
            for (int round = 0; round < 8; round++) {
                due("note NONE", x.note(person, round, NONE), (5 * person + round) % 21);
            }
        }
        due("count(3)", x.count(3), 0);
        Check.says(32, "THE BOOK is not the GROUP's");
        x.note(0, 0, 9);
        due("put(0, 0)", x.put(0, 0), 0);
        due("count(1)", x.count(1), 0);
    }

    // -- promise 33

    private static void allSorts() {
        Check.says(33, "Told as 0 never, 100 and v, 200 and d, 300 and d. BAD: sort");
        PotAndFine x = new PotAndFine();
        int found = 0;
        for (int sort = -20; sort < 420; sort++) {
            boolean is = sort == 0 || sort >= 100 && sort <= 120 || sort >= 200 && sort <= 209
                || sort >= 300 && sort <= 309;
            due("would(" + sort + ", 3, 3)", x.would(sort, 3, 3), !is ? BAD : sort >= 200 ? NONE : sort % 100);
            found += is ? 1 : 0;
        }
        due("of 42", found, 42);
        PotAndFine y = new PotAndFine();
        for (int sort = -20; sort < 420; sort++) {
            boolean is = sort == 0 || sort >= 100 && sort <= 120 || sort >= 200 && sort <= 209
                || sort >= 300 && sort <= 309;
            due("slips(" + sort + ", 3)", y.slips(sort, 3), is ? 0 : BAD);
        }
    }

    private static void puttingAndNever() {
        Check.says(33, "PUTS v (v 0 .. 20): v, also in ROUND 0; never: 0, also in ROUND 0");
        PotAndFine x = new PotAndFine();
        for (int round = 0; round < 8; round++) {
            due("would(0, 5, " + round + ")", x.would(0, 5, round), 0);
            for (int v = 0; v <= 20; v += 5) {
                due("would(100 + " + v + ", 0, " + round + ")", x.would(100 + v, 0, round), v);
            }
        }
        noteRow(x, 0, 20, 20, 20, 20, 20, 20, 20, 20);
        due("would(0, 0, 0), told otherwise", x.would(0, 0, 0), 0);
        due("would(103, 0, 7), told otherwise", x.would(103, 0, 7), 3);
    }

    private static void matchingMeans() {
        Check.says(33, "MATCHES: the mean (cut) of what all other PEOPLE for whom the ROUND before is told put there");
        PotAndFine x = new PotAndFine();
        x.note(2, 3, 20);
        int sum = 0;
        int[] coins = {7, 8, 0, 1, 4};
        int[] people = {0, 1, 3, 4, 5};
        int[] means = {7, 7, 5, 4, 4};
        for (int i = 0; i < 5; i++) {
            x.note(people[i], 3, coins[i]);
            sum += coins[i];
            due("would(200, 2, 4), " + (i + 1) + " told", x.would(200, 2, 4), means[i]);
            due("the mean by hand", means[i], sum / (i + 1));
        }
        due("would(200, 0, 4): 20, 8, 0, 1, 4", x.would(200, 0, 4), 6);
        due("would(200, 5, 4): 7, 8, 20, 0, 1", x.would(200, 5, 4), 7);
        due("would(200, 2, 3): the ROUND before is not told", x.would(200, 2, 3), NONE);
        due("would(200, 2, 5): the ROUND before is not told", x.would(200, 2, 5), NONE);
        PotAndFine full = new PotAndFine();
        for (int person = 0; person < 6; person++) {
            full.note(person, 0, 20);
        }
        due("would(200, 0, 1), all 20", full.would(200, 0, 1), 20);
        due("would(209, 0, 1), all 20", full.would(209, 0, 1), 11);
    }

    private static void matchingOneAtLeast() {
        Check.says(33, "MATCHES: (one at least)");
        PotAndFine x = new PotAndFine();
        due("would(200, 0, 1), none", x.would(200, 0, 1), NONE);
        x.note(0, 0, 9);
        due("would(200, 0, 1), itself alone", x.would(200, 0, 1), NONE);
        due("would(200, 1, 1), one", x.would(200, 1, 1), 9);
        x.note(5, 0, 0);
        due("would(200, 0, 1), one that put nothing", x.would(200, 0, 1), 0);
        x.note(5, 0, NONE);
        due("would(200, 0, 1), none again", x.would(200, 0, 1), NONE);
        x.note(5, 1, 4);
        due("would(200, 0, 1), one told in this ROUND alone", x.would(200, 0, 1), NONE);
    }

    private static void matchingLess() {
        Check.says(33, "MATCHES d (0 .. 9): less d, 0 at least");
        PotAndFine x = new PotAndFine();
        for (int v = 0; v <= 20; v++) {
            x.note(1, 4, v);
            for (int d = 0; d <= 9; d++) {
                due("would(200 + " + d + ", 0, 5) by " + v, x.would(200 + d, 0, 5), Math.max(0, v - d));
            }
        }
    }

    private static void staying() {
        Check.says(33, "STAYS d: its own in the ROUND before, less d, 0 at least");
        PotAndFine x = new PotAndFine();
        for (int v = 0; v <= 20; v++) {
            x.note(4, 6, v);
            for (int d = 0; d <= 9; d++) {
                due("would(300 + " + d + ", 4, 7) by " + v, x.would(300 + d, 4, 7), Math.max(0, v - d));
            }
        }
        due("would(300, 3, 7): another one's", x.would(300, 3, 7), NONE);
        due("would(300, 4, 6): not told before", x.would(300, 4, 6), NONE);
        x.note(4, 6, NONE);
        due("would(300, 4, 7): not told any more", x.would(300, 4, 7), NONE);
    }

    private static void tellingOfRoundNought() {
        Check.says(33, "in a ROUND from 1 on; nothing else");
        PotAndFine x = new PotAndFine();
        for (int person = 0; person < 6; person++) {
            noteRow(x, person, 11, 11, 11, 11, 11, 11, 11, 11);
        }
        for (int person = 0; person < 6; person++) {
            due("would(200, " + person + ", 0)", x.would(200, person, 0), NONE);
            due("would(300, " + person + ", 0)", x.would(300, person, 0), NONE);
            due("would(200, " + person + ", 1)", x.would(200, person, 1), 11);
            due("would(300, " + person + ", 1)", x.would(300, person, 1), 11);
        }
    }

    private static void tellingOfTheLastRound() {
        Check.says(33, "ROUNDS 0 .. 7: the last one, and a place that is not told itself");
        PotAndFine x = new PotAndFine();
        x.note(0, 6, 14);
        due("would(201, 5, 7)", x.would(201, 5, 7), 13);
        due("would(302, 0, 7)", x.would(302, 0, 7), 12);
        x.note(0, 7, 20);
        x.note(5, 7, 20);
        due("would(201, 5, 7)", x.would(201, 5, 7), 13);
        due("would(302, 0, 7)", x.would(302, 0, 7), 12);
    }

    private static void wouldIsRefused() {
        Check.says(33, "UNKNOWN: person, round; BAD: sort");
        PotAndFine x = new PotAndFine();
        for (int person : NO_PERSON) {
            due("would(0, " + person + ", 0)", x.would(0, person, 0), UNKNOWN);
            due("would(1, " + person + ", 0)", x.would(1, person, 0), UNKNOWN);
            due("would(1, " + person + ", 8)", x.would(1, person, 8), UNKNOWN);
        }
        for (int round : NO_ROUND) {
            due("would(0, 0, " + round + ")", x.would(0, 0, round), UNKNOWN);
            due("would(121, 5, " + round + ")", x.would(121, 5, round), UNKNOWN);
        }
        for (int sort : NO_SORT) {
            due("would(" + sort + ", 0, 0)", x.would(sort, 0, 0), BAD);
            due("would(" + sort + ", 5, 7)", x.would(sort, 5, 7), BAD);
        }
    }

    // -- promise 34

    private static void slipsNoneAndAll() {
        Check.says(34, "SLIPS of one by a SORT: places at which it is told otherwise");
        PotAndFine x = new PotAndFine();
        noteRow(x, 5, 1, 1, 1, 1, 1, 1, 1, 1);
        due("slips(0, 5): all", x.slips(0, 5), 8);
        due("slips(100, 5): all", x.slips(100, 5), 8);
        due("slips(101, 5): none", x.slips(101, 5), 0);
        due("slips(102, 5): all", x.slips(102, 5), 8);
        due("slips(300, 5): none", x.slips(300, 5), 0);
        due("slips(301, 5): all but ROUND 0", x.slips(301, 5), 7);
        due("slips(200, 5): nothing told of others", x.slips(200, 5), 0);
        noteRow(x, 0, 1, 1, 1, 1, 1, 1, 1, 1);
        due("slips(200, 5): none", x.slips(200, 5), 0);
        due("slips(201, 5): all but ROUND 0", x.slips(201, 5), 7);
        due("slips(0, 1): nothing told", x.slips(0, 1), 0);
        due("slips(200, 1): nothing told", x.slips(200, 1), 0);
        for (int round = 0; round < 8; round++) {
            x.note(5, round, 3);
            due("slips(101, 5), one more", x.slips(101, 5), round + 1);
        }
    }

    private static void slipsAtToldPlacesAlone() {
        Check.says(34, "places at which it is told: both by THE BOOK and by the SORT");
        PotAndFine x = new PotAndFine();
        noteRow(x, 2, 10, NONE, 5, 4, NONE, NONE, 3, NONE);
        due("slips(0, 2)", x.slips(0, 2), 4);
        due("slips(301, 2): of ROUND 3 alone, 5 less 1", x.slips(301, 2), 0);
        due("slips(302, 2): of ROUND 3 alone", x.slips(302, 2), 1);
        noteRow(x, 4, NONE, 6, NONE, NONE, NONE, 9, NONE, 2);
        // Of 2 in ROUNDS 2 and 6: 6 by 5, 9 by 3. Of 4 in ROUNDS 1 and 7: 10 by 6, 3 by 2.
        due("slips(201, 2): 5 as it is, 8 not", x.slips(201, 2), 1);
        due("slips(206, 2): 3 as it is, 0 not", x.slips(206, 2), 1);
        due("slips(200, 2)", x.slips(200, 2), 2);
        due("slips(204, 4): 6 as it is, 0 not", x.slips(204, 4), 1);
        due("slips(201, 4): 2 as it is, 9 not", x.slips(201, 4), 1);
        due("slips(300, 4): nothing told before", x.slips(300, 4), 0);
    }

    private static void slipsIsRefused() {
        Check.says(34, "UNKNOWN: person; BAD: sort");
        PotAndFine x = new PotAndFine();
        for (int person : NO_PERSON) {
            due("slips(0, " + person + ")", x.slips(0, person), UNKNOWN);
            due("slips(1, " + person + ")", x.slips(1, person), UNKNOWN);
        }
        for (int sort : NO_SORT) {
            due("slips(" + sort + ", 0)", x.slips(sort, 0), BAD);
            due("slips(" + sort + ", 5)", x.slips(sort, 5), BAD);
        }
        due("slips(0, 5)", x.slips(0, 5), 0);
    }

    // -- promises 35 and 36

    private static void sortOfNothing() {
        Check.says(35, "of like ones never: nothing is told");
        PotAndFine x = new PotAndFine();
        for (int person = 0; person < 6; person++) {
            due("sort(" + person + ")", x.sort(person), 0);
            due("sorts(" + person + ", 0)", x.sorts(person, 0), 42);
        }
    }

    private static void sortOfLikeOnes() {
        Check.says(35, "of like ones never, then PUTS by v, MATCHES by d, STAYS by d");
        PotAndFine x = new PotAndFine();
        noteRow(x, 0, 0, 0, 0, 0, 0, 0, 0, 0);
        due("sort(0): never ahead of PUTS 0 and STAYS", x.sort(0), 0);
        noteRow(x, 1, 4, 9);
        // PUTS 4 and PUTS 9 have 1 slip; MATCHES has 1 (0 by 9); STAYS 0 has 1.
        due("sort(1): the least v", x.sort(1), 104);
        noteRow(x, 1, 9, 4);
        due("sort(1): the least v, but STAYS 5 has none", x.sort(1), 305);
        PotAndFine y = new PotAndFine();
        noteRow(y, 0, 20, 20, 20);
        noteRow(y, 1, 20, 20, 20);
        due("sort(0): PUTS ahead of MATCHES and STAYS", y.sort(0), 120);
        noteRow(y, 1, NONE, NONE, NONE);
        noteRow(y, 0, 20, 18, 16);
        noteRow(y, 1, 20, 18);
        due("sort(0): MATCHES 2 ahead of STAYS 2", y.sort(0), 202);
        noteRow(y, 1, 3, 3);
        due("sort(0): STAYS 2", y.sort(0), 302);
        PotAndFine low = new PotAndFine();
        low.note(0, 0, 3);
        low.note(0, 1, 0);
        low.note(1, 0, 5);
        // PUTS 0 and 3 and never have 1 slip; MATCHES from 5 on, STAYS from 3 on none.
        due("sort(0): the least d of MATCHES", low.sort(0), 205);
        low.note(1, 0, 20);
        due("sort(0): the least d of STAYS", low.sort(0), 303);
    }

    private static void sortWithFewest() {
        Check.says(35, "THE SORT of one: with fewest SLIPS: each of 42");
        for (int v = 1; v <= 20; v++) {
            PotAndFine x = new PotAndFine();
            noteRow(x, 5, v, v, v);
            due("sort(5) of " + v, x.sort(5), 100 + v);
        }
        for (int d = 0; d <= 9; d++) {
            PotAndFine x = new PotAndFine();
            // The mean of 11 and 19, less d.
            noteRow(x, 0, 19, 19, 19, 19);
            noteRow(x, 1, 11, 11, 11, 11);
            noteRow(x, 5, 15, 15 - d, 15 - d, 15 - d);
            due("sort(5) of MATCHES " + d, x.sort(5), d == 0 ? 115 : 200 + d);
            PotAndFine y = new PotAndFine();
            noteRow(y, 5, 20, 20 - d, 20 - 2 * d, 3);
            noteRow(y, 1, 20, 0, 20, 0);
            due("sort(5) of STAYS " + d, y.sort(5), d == 0 ? 120 : 300 + d);
        }
    }

    private static void sortIsRefused() {
        Check.says(35, "UNKNOWN");
        PotAndFine x = new PotAndFine();
        for (int person : NO_PERSON) {
            due("sort(" + person + ")", x.sort(person), UNKNOWN);
        }
        x.note(5, 0, 20);
        due("sort(5)", x.sort(5), 120);
    }

    private static void sortsByHowMany() {
        Check.says(36, "How many SORTS (of 42) have so many SLIPS or fewer");
        PotAndFine x = new PotAndFine();
        noteRow(x, 3, 7, 7, 7, 7, 7, 7, 7, 7);
        // None: PUTS 7, STAYS 0, ten that match nobody. 7: STAYS 1 to 9. 8: never, all other PUTS.
        for (int n = 0; n <= 8; n++) {
            due("sorts(3, " + n + ")", x.sorts(3, n), n < 7 ? 12 : n < 8 ? 21 : 42);
        }
        noteRow(x, 4, 7, 7, 7, 7, 7, 7, 7, 7);
        due("sorts(3, 0): PUTS 7, MATCHES 0, STAYS 0", x.sorts(3, 0), 3);
        due("sorts(3, 6)", x.sorts(3, 6), 3);
        due("sorts(3, 7)", x.sorts(3, 7), 21);
        due("sorts(3, 8)", x.sorts(3, 8), 42);
        x.note(3, 7, 6);
        due("sorts(3, 0)", x.sorts(3, 0), 0);
        // 1: PUTS 7, MATCHES 0, STAYS 0. 6: MATCHES 1 and STAYS 1 tell 6 in ROUND 7 alone.
        due("sorts(3, 1)", x.sorts(3, 1), 3);
        due("sorts(3, 5)", x.sorts(3, 5), 3);
        due("sorts(3, 6)", x.sorts(3, 6), 5);
        due("sorts(3, 7): PUTS 6, and MATCHES and STAYS from 2 on", x.sorts(3, 7), 22);
        PotAndFine zeros = new PotAndFine();
        noteRow(zeros, 0, 0, 0, 0, 0, 0, 0, 0, 0);
        due("sorts(0, 0): never, PUTS 0, all that match nobody or stay", zeros.sorts(0, 0), 22);
        due("sorts(0, 7)", zeros.sorts(0, 7), 22);
        due("sorts(0, 8)", zeros.sorts(0, 8), 42);
        noteRow(zeros, 1, 20, 20, 20, 20, 20, 20, 20, 20);
        due("sorts(0, 0): never, PUTS 0, all that stay", zeros.sorts(0, 0), 12);
        due("sorts(1, 0): PUTS 20, STAYS 0", zeros.sorts(1, 0), 2);
        due("sorts(1, 7): all that match or stay, too", zeros.sorts(1, 7), 21);
    }

    private static void sortsIsRefused() {
        Check.says(36, "UNKNOWN: person; BAD: n (0 .. 8)");
        PotAndFine x = new PotAndFine();
        for (int person : NO_PERSON) {
            due("sorts(" + person + ", 0)", x.sorts(person, 0), UNKNOWN);
            due("sorts(" + person + ", 9)", x.sorts(person, 9), UNKNOWN);
        }
        for (int n : new int[] {-1, 9, 10, -9, Check.LOWEST, Check.HIGHEST}) {
            due("sorts(0, " + n + ")", x.sorts(0, n), BAD);
            due("sorts(5, " + n + ")", x.sorts(5, n), BAD);
        }
        due("sorts(5, 8)", x.sorts(5, 8), 42);
    }

    // -- promise 37

    private static void copiesOfTwoToSix() {
        Check.says(37, "others than PEOPLE: not told: how many places");
        for (int size = 2; size <= 6; size++) {
            PotAndFine x = Check.of("", "P01P02P03P04P05P06".substring(0, 3 * size));
            for (int person = 0; person < 6; person++) {
                noteRow(x, person, 20, 20, 20, 20, 20, 20, 20, 20);
            }
            due("copy() of " + size, x.copy(), 8 * size);
            due("count(3)", x.count(3), 8 * size);
            for (int person = 0; person < 6; person++) {
                for (int round = 0; round < 8; round++) {
                    due("place " + person + ", " + round, x.note(person, round, NONE), person < size ? person + 1 : NONE);
                }
            }
        }
    }

    private static void copiesOfEightRounds() {
        Check.says(37, "what the GROUP puts in ROUNDS 0 .. 7");
        PotAndFine x = Check.of("E10", "ZP20");
        for (int round = 0; round < 40; round++) {
            x.tell(0, round, round % 21);
        }
        due("copy()", x.copy(), 16);
        for (int round = 0; round < 8; round++) {
            due("place 0, " + round, x.note(0, round, NONE), round);
            due("place 1, " + round + ": not more than E", x.note(1, round, NONE), 10);
        }
    }

    private static void copiesOfWhoIsOut() {
        Check.says(37, "OUT: not told");
        PotAndFine x = Check.of("", "P01P02P03P04P05P06");
        int[] from = {0, 1, 7, 8, 40, 40};
        for (int person = 0; person < 4; person++) {
            x.send(person, from[person]);
        }
        due("copy()", x.copy(), 0 + 1 + 7 + 8 + 8 + 8);
        for (int person = 0; person < 6; person++) {
            for (int round = 0; round < 8; round++) {
                due("place " + person + ", " + round, x.note(person, round, NONE), round < from[person] ? person + 1 : NONE);
            }
        }
        for (int person = 0; person < 4; person++) {
            x.send(person, 0);
        }
        due("copy(), two are IN", x.copy(), 16);
    }

    private static void copiesInsteadOfWhatWas() {
        Check.says(37, "THE BOOK is what the GROUP puts");
        PotAndFine x = new PotAndFine();
        x.note(5, 7, 20);
        x.note(0, 0, 20);
        due("copy()", x.copy(), 16);
        due("place 5, 7", x.note(5, 7, NONE), NONE);
        due("place 0, 0", x.note(0, 0, NONE), 0);
        // It stays what it was then.
        x.copy();
        x.tell(0, 0, 9);
        due("place 0, 0 behind a tell", x.note(0, 0, NONE), 0);
        x.copy();
        due("place 0, 0 behind another copy", x.note(0, 0, NONE), 9);
    }

    // -- promises 38 and 39

    private static void keepsNothing() {
        Check.says(38, "They are kept: how many PUTS are TOLD: none");
        PotAndFine x = Check.of("", "P05P06P07");
        due("keep(0)", x.keep(0), 0);
        x.tell(0, 0, 1);
        x.send(0, 5);
        x.note(0, 0, 1);
        due("again(0)", x.again(0), 0);
        due("count(1)", x.count(1), 0);
        due("count(2)", x.count(2), 0);
        due("count(3)", x.count(3), 0);
        due("put(0, 0)", x.put(0, 0), 5);
        due("put(0, 39)", x.put(0, 39), 5);
        due("again(1): nothing was kept there", x.again(1), LATE);
    }

    private static void keepsAll() {
        Check.says(39, "They are as they were kept: PUTS that are TOLD, who is OUT, and THE BOOK");
        PotAndFine x = Check.of("", "ZZZZZZ");
        for (int person = 0; person < 6; person++) {
            for (int round = 0; round < 40; round += 3) {
                x.tell(person, round, person + 1);
            }
            noteRow(x, person, 1, 2, 3, 4, 5, 6, 7, 8 + person);
        }
        for (int person = 0; person < 4; person++) {
            x.send(person, 10 * person);
        }
        due("keep(1)", x.keep(1), 84);
        for (int person = 0; person < 6; person++) {
            x.tell(person, 0, NONE);
            x.tell(person, 1, 20);
            x.tell(person, 39, 20);
            x.note(person, 7, NONE);
            x.send(person, 40);
        }
        due("again(1)", x.again(1), 84);
        due("count(1)", x.count(1), 84);
        due("count(2)", x.count(2), 4);
        due("count(3)", x.count(3), 48);
        for (int person = 0; person < 6; person++) {
            due("tell(" + person + ", 0, NONE)", x.tell(person, 0, NONE), person + 1);
            due("tell(" + person + ", 1, NONE)", x.tell(person, 1, NONE), NONE);
            due("tell(" + person + ", 39, NONE)", x.tell(person, 39, NONE), person + 1);
            due("note(" + person + ", 7, NONE)", x.note(person, 7, NONE), 8 + person);
            due("send(" + person + ", 40)", x.send(person, 40), person < 4 ? 10 * person : 40);
        }
        due("again(1): it is kept still", x.again(1), 84);
        due("count(2)", x.count(2), 4);
        due("count(3)", x.count(3), 48);
    }

    private static void keepsInPlaceOfOlder() {
        Check.says(38, "They are kept: in place of what was kept there");
        PotAndFine x = Check.of("", "ZZZ");
        x.tell(0, 0, 1);
        x.note(0, 0, 1);
        x.send(0, 1);
        due("keep(0)", x.keep(0), 1);
        x.tell(1, 0, 2);
        x.note(0, 0, NONE);
        x.send(0, 40);
        due("keep(0)", x.keep(0), 2);
        x.tell(0, 0, NONE);
        due("again(0)", x.again(0), 2);
        due("count(2)", x.count(2), 0);
        due("count(3)", x.count(3), 0);
        due("put(0, 0)", x.put(0, 0), 1);
        due("put(1, 0)", x.put(1, 0), 2);
    }

    private static void slotsAreTheirOwn() {
        Check.says(39, "SLOTS 0 .. 1");
        PotAndFine x = Check.of("", "ZZZ");
        x.tell(0, 0, 11);
        x.keep(0);
        x.tell(0, 0, 12);
        x.tell(0, 1, 12);
        due("again(1): only 0 was kept", x.again(1), LATE);
        due("put(0, 0): nothing is changed", x.put(0, 0), 12);
        due("keep(1)", x.keep(1), 2);
        due("again(0)", x.again(0), 1);
        due("put(0, 0)", x.put(0, 0), 11);
        due("again(1)", x.again(1), 2);
        due("put(0, 0)", x.put(0, 0), 12);
        PotAndFine y = Check.of("", "ZZZ");
        y.keep(1);
        due("again(0): only 1 was kept", y.again(0), LATE);
        due("again(1)", y.again(1), 0);
    }

    private static void slotsAreRefused() {
        PotAndFine x = Check.of("", "ZZZ");
        x.tell(0, 0, 11);
        x.keep(0);
        x.keep(1);
        x.tell(0, 0, 12);
        x.tell(1, 0, 12);
        for (int slot : new int[] {-1, 2, 3, -9, Check.LOWEST, Check.HIGHEST}) {
            Check.says(38, "UNKNOWN");
            due("keep(" + slot + ")", x.keep(slot), UNKNOWN);
            Check.says(39, "UNKNOWN; LATE: none were kept");
            due("again(" + slot + ")", x.again(slot), UNKNOWN);
            due("again(" + slot + ") of a new object", new PotAndFine().again(slot), UNKNOWN);
        }
        due("put(0, 0)", x.put(0, 0), 12);
        due("count(1)", x.count(1), 2);
        due("again(0): as it was kept", x.again(0), 1);
        due("put(0, 0)", x.put(0, 0), 11);
    }

    private static void notKept() {
        Check.says(39, "the RULE, the GROUP and THE TEXT are not kept");
        PotAndFine x = Check.of("E10F1", "ZZZ");
        x.tell(0, 0, 20);
        x.keep(0);
        Check.rule(x, "E15F2C3");
        x.fine(9);
        due("again(0)", x.again(0), 1);
        due("ruled(0)", x.ruled(0), 15);
        due("ruled(2)", x.ruled(2), 9);
        due("ruled(3)", x.ruled(3), 3);
        due("count(4)", x.count(4), 7);
        due("put(0, 0): 20 is told, E is 15", x.put(0, 0), 15);
        Check.says(39, "LATE: what was kept is gone by another GROUP");
        Check.text(x, "ZZ");
        x.group();
        due("again(0)", x.again(0), LATE);
        due("keep(0)", x.keep(0), 0);
        due("again(0)", x.again(0), 0);
    }

    // -- promise 40

    private static void counts() {
        Check.says(40, "PUTS that are TOLD");
        PotAndFine x = Check.of("", "P05P06P07P08");
        x.tell(0, 0, 5);
        due("count(1), told as it would be put anyway", x.count(1), 1);
        x.tell(0, 0, 0);
        due("count(1), told 0", x.count(1), 1);
        x.send(0, 0);
        due("count(1), of one that is OUT", x.count(1), 1);
        x.tell(3, 39, 0);
        due("count(1)", x.count(1), 2);
        Check.says(40, "those that are OUT from some ROUND on");
        due("count(2)", x.count(2), 1);
        x.send(1, 39);
        due("count(2), OUT in the last ROUND alone", x.count(2), 2);
        x.send(0, 40);
        due("count(2)", x.count(2), 1);
        Check.says(40, "places of THE BOOK that are told");
        due("count(3)", x.count(3), 0);
        x.note(5, 7, 0);
        due("count(3), told 0", x.count(3), 1);
        x.note(5, 7, 0);
        due("count(3), the same place", x.count(3), 1);
        Check.says(40, "PEOPLE, bytes of THE TEXT");
        due("count(0)", x.count(0), 4);
        due("count(4)", x.count(4), 12);
        x.wipe();
        due("count(4)", x.count(4), 0);
        due("count(0)", x.count(0), 4);
    }

    private static void countIsRefused() {
        Check.says(40, "BAD");
        PotAndFine x = new PotAndFine();
        for (int what : new int[] {-1, 5, 6, -9, Check.LOWEST, Check.HIGHEST}) {
            due("count(" + what + ")", x.count(what), BAD);
        }
        due("count(0)", x.count(0), 2);
        due("count(4)", x.count(4), 0);
    }
}
