/** The edges that the document names of what is told and of rounds: part 2 of its terms, promises 9 to 18. */
public final class RoundEdgesTest {
    private static final int UNKNOWN = Check.UNKNOWN, BAD = Check.BAD, LATE = Check.LATE, NONE = Check.NONE;
    private static final long SUM = Check.SUM;

    public static void main(String[] args) {
        tellsWhatIsTaken();
        tellsWhatIsRefused();
        tellsOfAllPlaces();
        toldIsPut();
        toldAboveWhatOneHas();
        toldOfOneThatIsOut();
        sendsRounds();
        sendsWhatIsRefused();
        sendsOfTwo();
        sendsOfThree();
        sendsOfSix();
        sentAndBack();
        fines();
        putsOfRoundNought();
        putsOfAlways();
        meansAreCut();
        lessByD();
        whoIsOutDoesNotCount();
        learnsLess();
        learnsByWhatWasPaid();
        learnsByWhomever();
        putsAreRefused();
        finesOnlyAboveNought();
        whoPaysNothing();
        finesBelowTheMean();
        finesNineAtMost();
        finesThoseThatAreIn();
        spiteAboveTheMean();
        spiteForOneAlone();
        spiteNineAtMost();
        vengeanceTogether();
        vengeanceOfTheRoundBefore();
        vengeanceOnWhoIsIn();
        paymentsAreRefused();
        pots();
        heres();
        sharesAreEven();
        whatIsLost();
        heldBelowNothing();
        heldByWhoIsOut();
        heldMost();
        sumsOfAll();
        lostUpToARound();
        roundsAreRefused();
        theLastOfManyCalls();
        Check.end();
    }

    private static void due(String call, long got, long want) {
        Check.due(call, got, want);
    }

    // -- promise 9

    private static void tellsWhatIsTaken() {
        Check.says(9, "A PUT is TOLD (NONE: not any more): what was told; 0 .. 20");
        PotAndFine x = Check.of("", "ZZ");
        int before = NONE;
        for (int v = 0; v <= 20; v++) {
            due("tell(1, 39, " + v + ")", x.tell(1, 39, v), before);
            due("put(1, 39)", x.put(1, 39), v);
            due("count(1)", x.count(1), 1);
            before = v;
        }
        due("tell(1, 39, NONE)", x.tell(1, 39, NONE), 20);
        due("put(1, 39)", x.put(1, 39), 0);
        due("count(1)", x.count(1), 0);
        due("tell(1, 39, NONE) again", x.tell(1, 39, NONE), NONE);
        due("count(1)", x.count(1), 0);
        due("tell(0, 0, 20)", x.tell(0, 0, 20), NONE);
        due("put(0, 0)", x.put(0, 0), 20);
        due("put(1, 0)", x.put(1, 0), 0);
        due("put(0, 1)", x.put(0, 1), 0);
    }

    private static void tellsWhatIsRefused() {
        Check.says(9, "UNKNOWN: person, round; BAD: v");
        for (String people : new String[] {"ZZ", "ZZZZZZ"}) {
            PotAndFine x = Check.of("", people);
            int size = people.length();
            x.tell(0, 0, 7);
            for (int person : Check.noPerson(size)) {
                due("tell(" + person + ", 0, 5)", x.tell(person, 0, 5), UNKNOWN);
                due("tell(" + person + ", 0, 21)", x.tell(person, 0, 21), UNKNOWN);
                due("tell(" + person + ", 40, 5)", x.tell(person, 40, 5), UNKNOWN);
            }
            for (int round : Check.NO_ROUND) {
                due("tell(0, " + round + ", 5)", x.tell(0, round, 5), UNKNOWN);
                due("tell(0, " + round + ", 21)", x.tell(0, round, 21), UNKNOWN);
                due("tell(0, " + round + ", NONE)", x.tell(0, round, NONE), UNKNOWN);
            }
            for (int v : new int[] {-1, 21, -2, -8, -10, 22, Check.LOWEST, Check.HIGHEST}) {
                due("tell(0, 0, " + v + ")", x.tell(0, 0, v), BAD);
                due("tell(size - 1, 39, " + v + ")", x.tell(size - 1, 39, v), BAD);
            }
            due("count(1)", x.count(1), 1);
            due("put(0, 0)", x.put(0, 0), 7);
            due("pot(39)", x.pot(39), 0);
            due("tell(0, 0, NONE)", x.tell(0, 0, NONE), 7);
        }
    }

    private static void tellsOfAllPlaces() {
        Check.says(9, "a PUT may be TOLD for one in a ROUND: for all in all");
        PotAndFine x = Check.of("", "ZZZZZZ");
        for (int person = 0; person < 6; person++) {
            for (int round = 0; round < 40; round++) {
                due("tell", x.tell(person, round, (7 * person + round) % 21), NONE);
            }
        }
        due("count(1)", x.count(1), 240);
        due("keep(0)", x.keep(0), 240);
        due("again(0)", x.again(0), 240);
        for (int person = 0; person < 6; person++) {
            for (int round = 0; round < 40; round++) {
                due("tell NONE", x.tell(person, round, NONE), (7 * person + round) % 21);
            }
        }
        due("count(1)", x.count(1), 0);
    }

    private static void toldIsPut() {
        Check.says(0, "A PUT may be TOLD; then it is that");
        PotAndFine x = Check.of("F5", "P20ZM3G39V39L3");
        for (int round : new int[] {0, 1, 20, 39}) {
            for (int person = 0; person < 6; person++) {
                x.tell(person, round, 2 + person);
            }
            for (int person = 0; person < 6; person++) {
                due("put(" + person + ", " + round + ")", x.put(person, round), 2 + person);
            }
        }
        PotAndFine s = Check.of("F5", "S39Z");
        s.tell(0, 5, 0);
        due("put(0, 5) of S", s.put(0, 5), 0);
        s.tell(0, 5, 20);
        due("put(0, 5) of S", s.put(0, 5), 20);
    }

    private static void toldAboveWhatOneHas() {
        Check.says(0, "0 .. 20, but not more than E is put");
        for (int coins = 1; coins <= 20; coins++) {
            PotAndFine x = Check.of("E" + Check.two(coins), "ZZ");
            for (int v = 0; v <= 20; v++) {
                x.tell(0, 3, v);
                due("put(0, 3) with E " + coins, x.put(0, 3), Math.min(v, coins));
            }
            Check.rule(x, "E20");
            due("put(0, 3) with E 20: 20 is told still", x.put(0, 3), 20);
            due("tell(0, 3, NONE)", x.tell(0, 3, NONE), 20);
        }
        // L goes on from what was put, not from what was told.
        PotAndFine learns = Check.of("E10", "L1Z");
        learns.tell(0, 0, 20);
        due("put(0, 1) of L", learns.put(0, 1), 9);
        PotAndFine matches = Check.of("E10", "ZM0");
        matches.tell(0, 0, 20);
        due("put(1, 1) of M", matches.put(1, 1), 10);
    }

    private static void toldOfOneThatIsOut() {
        Check.says(9, "a PUT is TOLD of one that is OUT");
        PotAndFine x = Check.of("", "P05P10Z");
        x.send(0, 3);
        due("tell(0, 3, 20)", x.tell(0, 3, 20), NONE);
        due("put(0, 3)", x.put(0, 3), NONE);
        due("pot(3)", x.pot(3), 10);
        due("count(1)", x.count(1), 1);
        due("send(0, 4)", x.send(0, 4), 3);
        due("put(0, 3)", x.put(0, 3), 20);
        due("pot(3)", x.pot(3), 30);
    }

    // -- promise 10

    private static void sendsRounds() {
        Check.says(10, "One is OUT from a ROUND on (40: it stays): from which it was");
        PotAndFine x = Check.of("", "P01P02P04");
        int before = 40;
        for (int round = 0; round <= 40; round++) {
            due("send(2, " + round + ")", x.send(2, round), before);
            due("count(2)", x.count(2), round < 40 ? 1 : 0);
            if (round > 0) {
                due("put(2, " + (round - 1) + ")", x.put(2, round - 1), 4);
                due("pot(" + (round - 1) + ")", x.pot(round - 1), 7);
            }
            if (round < 40) {
                due("put(2, " + round + ")", x.put(2, round), NONE);
                due("pot(" + round + ")", x.pot(round), 3);
                due("put(2, 39)", x.put(2, 39), NONE);
            }
            before = round;
        }
        due("send(2, 40) again", x.send(2, 40), 40);
    }

    private static void sendsWhatIsRefused() {
        Check.says(10, "UNKNOWN: person; BAD: round; LATE: fewer than two would be IN");
        for (String people : new String[] {"ZZ", "ZZZ", "ZZZZZZ"}) {
            PotAndFine x = Check.of("", people);
            for (int person : Check.noPerson(people.length())) {
                due("send(" + person + ", 0)", x.send(person, 0), UNKNOWN);
                due("send(" + person + ", 41)", x.send(person, 41), UNKNOWN);
                due("send(" + person + ", 40)", x.send(person, 40), UNKNOWN);
            }
            for (int round : new int[] {-1, 41, -9, Check.LOWEST, Check.HIGHEST}) {
                due("send(0, " + round + ")", x.send(0, round), BAD);
            }
            due("count(2)", x.count(2), 0);
            due("here(39)", x.here(39), people.length());
        }
        // With two the round is looked at ahead of who would be IN.
        PotAndFine two = new PotAndFine();
        due("send(0, 41) of two", two.send(0, 41), BAD);
        due("send(0, -1) of two", two.send(0, -1), BAD);
    }

    private static void sendsOfTwo() {
        Check.says(10, "LATE: fewer than two would be IN in some ROUND: of two");
        PotAndFine x = new PotAndFine();
        for (int round = 0; round < 40; round++) {
            due("send(0, " + round + ")", x.send(0, round), LATE);
            due("send(1, " + round + ")", x.send(1, round), LATE);
        }
        due("send(0, 40)", x.send(0, 40), 40);
        due("send(1, 40)", x.send(1, 40), 40);
        due("count(2)", x.count(2), 0);
        due("here(0)", x.here(0), 2);
        due("here(39)", x.here(39), 2);
    }

    private static void sendsOfThree() {
        Check.says(10, "LATE: fewer than two would be IN in some ROUND: of three");
        int[] rounds = {0, 1, 20, 38, 39};
        for (int first : rounds) {
            for (int second : rounds) {
                PotAndFine x = Check.of("", "ZZZ");
                due("send(1, " + first + ")", x.send(1, first), 40);
                due("send(0, " + second + ")", x.send(0, second), LATE);
                due("send(2, " + second + ")", x.send(2, second), LATE);
                due("send(2, 40)", x.send(2, 40), 40);
                due("here(39)", x.here(39), 2);
                due("send(1, " + second + "): it is OUT already", x.send(1, second), first);
                due("send(1, 40)", x.send(1, 40), second);
                due("send(0, " + second + ")", x.send(0, second), 40);
                due("send(1, " + first + ")", x.send(1, first), LATE);
            }
        }
    }

    private static void sendsOfSix() {
        Check.says(10, "two at least are IN always: of six");
        for (int size = 3; size <= 6; size++) {
            PotAndFine x = Check.of("", "ZZZZZZ".substring(0, size));
            for (int person = 0; person < size - 2; person++) {
                due("send(" + person + ", " + 7 * person + ")", x.send(person, 7 * person), 40);
            }
            due("count(2)", x.count(2), size - 2);
            due("here(39)", x.here(39), 2);
            due("here(0)", x.here(0), size - 1);
            for (int round = 0; round < 40; round++) {
                due("send(size - 2, " + round + ")", x.send(size - 2, round), LATE);
                due("send(size - 1, " + round + ")", x.send(size - 1, round), LATE);
            }
            due("count(2)", x.count(2), size - 2);
            due("send(0, 39)", x.send(0, 39), 0);
            due("send(size - 1, 39)", x.send(size - 1, 39), LATE);
            due("send(0, 40)", x.send(0, 40), 39);
            due("send(size - 1, 39)", x.send(size - 1, 39), 40);
            due("send(0, 39)", x.send(0, 39), LATE);
        }
    }

    private static void sentAndBack() {
        Check.says(10, "40: it stays");
        PotAndFine x = Check.of("", "M0P20P10");
        long held = x.holds(0, 39);
        x.send(1, 0);
        due("put(0, 1)", x.put(0, 1), 10);
        x.send(1, 40);
        due("put(0, 1)", x.put(0, 1), 15);
        due("holds(0, 39)", x.holds(0, 39), held);
    }

    // -- promise 11

    private static void fines() {
        Check.says(11, "F is otherwise: what it was. BAD: 0 .. 9");
        PotAndFine x = Check.of("F4", "ZG09");
        int before = 4;
        for (int f = 0; f <= 9; f++) {
            due("fine(" + f + ")", x.fine(f), before);
            due("ruled(2)", x.ruled(2), f);
            due("lost(0, 0)", x.lost(0, 0), 5 * f);
            before = f;
        }
        for (int f : new int[] {-1, 10, 11, -9, Check.LOWEST, Check.HIGHEST}) {
            due("fine(" + f + ")", x.fine(f), BAD);
            due("ruled(2)", x.ruled(2), 9);
            due("lost(0, 0)", x.lost(0, 0), 45);
        }
        due("ruled(0): no other PART", x.ruled(0), 20);
        due("ruled(3)", x.ruled(3), 1);
    }

    // -- promise 12

    private static void putsOfRoundNought() {
        Check.says(12, "M, G, S, V, L in ROUND 0 E by two (cut)");
        for (int coins = 1; coins <= 20; coins++) {
            PotAndFine x = Check.of("E" + Check.two(coins) + "F9", "M9G99S99V99L9P20");
            for (int person = 0; person < 5; person++) {
                due("put(" + person + ", 0) with E " + coins, x.put(person, 0), coins / 2);
            }
        }
        due("put(0, 0) with E 01", Check.of("E01", "M0Z").put(0, 0), 0);
        due("put(0, 0) with E 02", Check.of("E02", "M0Z").put(0, 0), 1);
        due("put(0, 0) with E 03", Check.of("E03", "L0Z").put(0, 0), 1);
    }

    private static void putsOfAlways() {
        Check.says(12, "P its xx, never more than E; Z 0");
        for (int coins = 1; coins <= 20; coins++) {
            PotAndFine x = Check.of("E" + Check.two(coins), "P00P01P10P19P20Z");
            int[] amounts = {0, 1, 10, 19, 20, 0};
            for (int person = 0; person < 6; person++) {
                for (int round : new int[] {0, 1, 39}) {
                    due("put(" + person + ", " + round + ") with E " + coins, x.put(person, round),
                        Math.min(amounts[person], coins));
                }
            }
        }
    }

    private static void meansAreCut() {
        Check.says(12, "later the mean (cut) of what the others put in the ROUND before");
        for (int a = 0; a <= 20; a++) {
            for (int b = 0; b <= 20; b++) {
                PotAndFine x = Check.of("", "P" + Check.two(a) + "M0P" + Check.two(b));
                due("put(1, 1) between " + a + " and " + b, x.put(1, 1), (a + b) / 2);
                due("put(1, 39) between " + a + " and " + b, x.put(1, 39), (a + b) / 2);
            }
        }
        for (String letter : new String[] {"M0", "G00", "S00", "V00"}) {
            for (int v = 0; v <= 20; v++) {
                PotAndFine x = Check.of("", "ZZZZ" + letter + "P" + Check.two(v));
                due("put(4, 1) of " + letter + " by " + v + " of one among five", x.put(4, 1), v / 5);
                PotAndFine pair = Check.of("", letter + "P" + Check.two(v));
                due("put(0, 1) of " + letter + " by " + v + " of the other one", pair.put(0, 1), v);
            }
        }
        // Its own put does not count.
        PotAndFine own = Check.of("", "M0P10");
        own.tell(0, 3, 20);
        due("put(0, 4)", own.put(0, 4), 10);
    }

    private static void lessByD() {
        Check.says(12, "less d, never less than 0");
        for (String letter : new String[] {"M", "G", "S", "V"}) {
            for (int d = 0; d <= 9; d++) {
                for (int v : new int[] {0, 1, d, d + 1, Math.max(0, d - 1), 20}) {
                    PotAndFine x = Check.of("", letter + d + (letter.equals("M") ? "" : "0") + "P" + Check.two(v));
                    due("put(0, 1) of " + letter + d + " by " + v, x.put(0, 1), Math.max(0, v - d));
                }
            }
        }
        // d is taken from the mean that was cut: 19 by two is 9.
        due("put(0, 1)", Check.of("", "M9P09P10").put(0, 1), 0);
        due("put(0, 1)", Check.of("", "M8P09P10").put(0, 1), 1);
    }

    private static void whoIsOutDoesNotCount() {
        Check.says(12, "who is OUT from this ROUND on does not count");
        for (String letter : new String[] {"M0", "G00", "S00", "V00"}) {
            PotAndFine x = Check.of("", letter + "P20P10");
            due("put(0, 5)", x.put(0, 5), 15);
            x.send(1, 5);
            due("put(0, 4)", x.put(0, 4), 15);
            due("put(0, 5)", x.put(0, 5), 10);
            due("put(0, 6)", x.put(0, 6), 10);
            x.send(1, 6);
            due("put(0, 5)", x.put(0, 5), 15);
            due("put(0, 6)", x.put(0, 6), 10);
            x.send(1, 0);
            due("put(0, 0)", x.put(0, 0), 10);
            due("put(0, 1)", x.put(0, 1), 10);
            x.send(1, 39);
            due("put(0, 38)", x.put(0, 38), 15);
            due("put(0, 39)", x.put(0, 39), 10);
        }
    }

    private static void learnsLess() {
        Check.says(12, "L: what it put in the ROUND before, less d, never less than 0");
        for (int d = 0; d <= 9; d++) {
            PotAndFine x = Check.of("", "L" + d + "P20");
            PotAndFine fined = Check.of("F9", "L" + d + "P20");
            for (int round = 0; round < 40; round++) {
                due("put(0, " + round + ") of L" + d, x.put(0, round), Math.max(0, 10 - d * round));
                due("put(0, " + round + ") of L" + d + ", nothing paid", fined.put(0, round),
                    Math.max(0, 10 - d * round));
            }
        }
    }

    private static void learnsByWhatWasPaid() {
        Check.says(12, "L: more by F times all that was paid to fine it, if that is above 0, else less d; E at most");
        // 0 and 10 are told of E 10: the mean is 5, G pays 5.
        for (int f = 0; f <= 9; f++) {
            PotAndFine x = Check.of("E10F" + f, "L4G09");
            Check.tellRound(x, 0, 0, 10);
            due("put(0, 1) by F " + f, x.put(0, 1), Math.min(10, 5 * f));
        }
        // 8 and 10: the mean is 9, G pays 1 with anger 9, nothing with anger 8.
        PotAndFine one = Check.of("F1", "L4G09");
        Check.tellRound(one, 0, 8, 10);
        due("put(0, 1), 1 paid", one.put(0, 1), 9);
        PotAndFine none = Check.of("F1", "L4G08");
        Check.tellRound(none, 0, 8, 10);
        due("put(0, 1), nothing paid", none.put(0, 1), 4);
        // What was paid two ROUNDS before does not count.
        one.tell(0, 1, 8);
        one.tell(1, 1, 8);
        due("put(0, 2)", one.put(0, 2), 4);
        PotAndFine most = Check.of("E20F1", "L0G09");
        Check.tellRound(most, 4, 19, 20);
        due("put(0, 5): the mean is 19", most.put(0, 5), 19);
        Check.tellRound(most, 4, 18, 20);
        due("put(0, 5): 18 and 1", most.put(0, 5), 19);
        most.fine(2);
        due("put(0, 5): 18 and 2", most.put(0, 5), 20);
        most.fine(3);
        due("put(0, 5): E at most", most.put(0, 5), 20);
    }

    private static void learnsByWhomever() {
        Check.says(12, "L: all that was paid to fine it there (by whomever)");
        // 10, 20, 20, 20: the mean is 17; 7 by 2 of 9 is 1, 7 by 3 of 9 is 2.
        PotAndFine x = Check.of("F1", "L5G02V03P20");
        Check.tellRound(x, 0, 10, 20, 20, 20);
        due("paid(1, 0, 0)", x.paid(1, 0, 0), 1);
        due("paid(2, 0, 0)", x.paid(2, 0, 0), 2);
        due("put(0, 1)", x.put(0, 1), 13);
        x.fine(2);
        due("put(0, 1) by F 2", x.put(0, 1), 16);
        x.fine(0);
        due("put(0, 1) by F 0", x.put(0, 1), 5);
        x.fine(1);
        x.send(1, 1);
        due("put(0, 1), one that paid is OUT now", x.put(0, 1), 13);
        x.send(2, 1);
        due("put(0, 1), both that paid are OUT now", x.put(0, 1), 13);
        x.send(2, 40);
        x.send(1, 0);
        // 10, 20, 20: the mean is 16; 6 by 3 of 9 is 2.
        due("put(0, 1), one was OUT there", x.put(0, 1), 12);
        // S pays for L that put most: 20 and 0, the mean is 10, S pays 9.
        PotAndFine spite = Check.of("F1", "S09L5");
        Check.tellRound(spite, 0, 0, 10);
        due("put(1, 1): 10 and 5", spite.put(1, 1), 15);
    }

    private static void putsAreRefused() {
        Check.says(12, "NONE: it was OUT. UNKNOWN");
        PotAndFine x = Check.of("", "P01P02P04");
        x.send(0, 39);
        due("put(0, 38)", x.put(0, 38), 1);
        due("put(0, 39)", x.put(0, 39), NONE);
        for (int person : Check.noPerson(3)) {
            due("put(" + person + ", 0)", x.put(person, 0), UNKNOWN);
            due("put(" + person + ", 40)", x.put(person, 40), UNKNOWN);
        }
        for (int round : Check.NO_ROUND) {
            due("put(2, " + round + ")", x.put(2, round), UNKNOWN);
            due("put(0, " + round + ")", x.put(0, round), UNKNOWN);
        }
        due("put(2, 0)", x.put(2, 0), 4);
        due("put(2, 39)", x.put(2, 39), 4);
    }

    // -- promise 13

    private static void finesOnlyAboveNought() {
        Check.says(13, "FINES, if F is above 0");
        for (int f = 0; f <= 9; f++) {
            PotAndFine x = Check.of("F" + f, "G09S09V09ZP20");
            // 10, 10, 10, 0, 20: the mean is 10.
            due("paid(0, 3, 0) by F " + f, x.paid(0, 3, 0), f > 0 ? 9 : 0);
            due("paid(1, 4, 0) by F " + f, x.paid(1, 4, 0), f > 0 ? 9 : 0);
            due("paid(2, 3, 0) by F " + f, x.paid(2, 3, 0), f > 0 ? 9 : 0);
        }
    }

    private static void whoPaysNothing() {
        Check.says(13, "M, P, Z, L pay nothing");
        PotAndFine x = Check.of("F9", "M9P20ZL9G99S99");
        for (int round : new int[] {0, 1, 39}) {
            for (int person = 0; person < 4; person++) {
                for (int other = 0; other < 6; other++) {
                    if (other != person) {
                        due("paid(" + person + ", " + other + ", " + round + ")", x.paid(person, other, round), 0);
                    }
                }
            }
        }
    }

    private static void finesBelowTheMean() {
        Check.says(13, "G, V pay for each other one that PUT less than the mean (cut): the difference times a by 9 (cut)");
        for (String letter : new String[] {"G0", "V0"}) {
            for (int a = 0; a <= 9; a++) {
                PotAndFine x = Check.of("F1", letter + a + "Z");
                for (int own = 0; own <= 20; own += own < 4 || own > 16 ? 1 : 3) {
                    for (int other : new int[] {0, 1, 2, 3, own - 3, own - 2, own - 1, own, own + 1, 20}) {
                        if (other >= 0 && other <= 20) {
                            Check.tellRound(x, 0, own, other);
                            int mean = (own + other) / 2;
                            int want = other < mean ? Math.min(9, (mean - other) * a / 9) : 0;
                            due("paid(0, 1, 0), " + own + " and " + other + ", anger " + a, x.paid(0, 1, 0), want);
                        }
                    }
                    x = Check.of("F1", letter + a + "Z");
                }
            }
        }
        PotAndFine x = Check.of("F1", "G09ZZZ");
        // 3 by three others and itself: 7, 2, 2, 1 make 12, the mean is 3; 6, 2, 2, 1 make 11, the mean is 2.
        Check.tellRound(x, 0, 7, 2, 2, 1);
        due("paid(0, 1, 0): 1 less", x.paid(0, 1, 0), 1);
        due("paid(0, 2, 0): 1 less", x.paid(0, 2, 0), 1);
        due("paid(0, 3, 0): 2 less", x.paid(0, 3, 0), 2);
        Check.tellRound(x, 0, 6, 2, 2, 1);
        due("paid(0, 1, 0): just the mean", x.paid(0, 1, 0), 0);
        due("paid(0, 2, 0): just the mean", x.paid(0, 2, 0), 0);
        due("paid(0, 3, 0): 1 less", x.paid(0, 3, 0), 1);
        // G itself is below the mean and is not fined by itself.
        PotAndFine self = Check.of("F1C1", "G09P20");
        self.tell(0, 0, 0);
        due("lost(0, 0)", self.lost(0, 0), 0);
    }

    private static void finesNineAtMost() {
        Check.says(13, "the difference times a by 9 (cut), 9 at most");
        // 20, 20, 20, 20, 20, 0: the mean is 16.
        int[] want = {0, 1, 3, 5, 7, 8, 9, 9, 9, 9};
        for (int a = 0; a <= 9; a++) {
            PotAndFine x = Check.of("F1", "G0" + a + "P20P20P20P20Z");
            x.tell(0, 0, 20);
            due("paid(0, 5, 0), anger " + a, x.paid(0, 5, 0), want[a]);
        }
        PotAndFine x = Check.of("F1", "G09Z");
        for (int own = 14; own <= 20; own++) {
            x.tell(0, 0, own);
            due("paid(0, 1, 0), " + own + " and 0", x.paid(0, 1, 0), Math.min(9, own / 2));
        }
    }

    private static void finesThoseThatAreIn() {
        Check.says(13, "each other one that is IN; the mean of what all PUT");
        PotAndFine x = Check.of("F1", "G09P20P12Z");
        Check.tellRound(x, 5, 20, 20, 12, 0);
        due("paid(0, 3, 5): the mean is 13", x.paid(0, 3, 5), 9);
        due("paid(0, 2, 5)", x.paid(0, 2, 5), 1);
        x.send(3, 5);
        due("paid(0, 3, 5), OUT", x.paid(0, 3, 5), 0);
        due("paid(0, 2, 5): the mean is 17", x.paid(0, 2, 5), 5);
        x.send(3, 6);
        due("paid(0, 3, 5), IN still", x.paid(0, 3, 5), 9);
        due("paid(0, 3, 6), OUT", x.paid(0, 3, 6), 0);
        x.send(0, 5);
        due("paid(0, 2, 5): who is OUT pays nothing", x.paid(0, 2, 5), 0);
        due("paid(0, 3, 5): who is OUT pays nothing", x.paid(0, 3, 5), 0);
    }

    private static void spiteAboveTheMean() {
        Check.says(13, "S: the one that PUT most, if that is more than the mean: the difference times a by 9 (cut)");
        PotAndFine x = Check.of("F1", "S09Z");
        Check.tellRound(x, 0, 10, 10);
        due("paid(0, 1, 0): just the mean", x.paid(0, 1, 0), 0);
        Check.tellRound(x, 0, 9, 10);
        due("paid(0, 1, 0): 9 is the mean, cut", x.paid(0, 1, 0), 1);
        Check.tellRound(x, 0, 11, 10);
        due("paid(0, 1, 0): 10 is the mean, cut", x.paid(0, 1, 0), 0);
        Check.tellRound(x, 0, 12, 10);
        due("paid(0, 1, 0): less than the mean", x.paid(0, 1, 0), 0);
        Check.tellRound(x, 0, 6, 10);
        due("paid(0, 1, 0): 2 more", x.paid(0, 1, 0), 2);
        for (int a = 0; a <= 9; a++) {
            PotAndFine y = Check.of("F1", "S0" + a + "Z");
            for (int other = 0; other <= 20; other++) {
                Check.tellRound(y, 0, 3, other);
                int more = other - (3 + other) / 2;
                due("paid(0, 1, 0), 3 and " + other + ", anger " + a, y.paid(0, 1, 0),
                    more > 0 ? Math.min(9, more * a / 9) : 0);
            }
        }
    }

    private static void spiteForOneAlone() {
        Check.says(13, "S pays for one alone: the one (not itself) that PUT most (of like ones the least)");
        PotAndFine x = Check.of("F1", "P15S09P15P14");
        x.tell(1, 0, 0);
        // 15, 0, 15, 14: the mean is 11.
        due("paid(1, 0, 0)", x.paid(1, 0, 0), 4);
        due("paid(1, 2, 0)", x.paid(1, 2, 0), 0);
        due("paid(1, 3, 0)", x.paid(1, 3, 0), 0);
        x.tell(2, 0, 16);
        due("paid(1, 0, 0)", x.paid(1, 0, 0), 0);
        due("paid(1, 2, 0): 16 of a mean of 11", x.paid(1, 2, 0), 5);
        x.tell(3, 0, 20);
        due("paid(1, 2, 0)", x.paid(1, 2, 0), 0);
        due("paid(1, 3, 0): 20 of a mean of 12", x.paid(1, 3, 0), 8);
        PotAndFine own = Check.of("F1", "S09P15P05");
        own.tell(0, 0, 20);
        due("paid(0, 1, 0): 15 of a mean of 13, not itself", own.paid(0, 1, 0), 2);
        due("paid(0, 2, 0)", own.paid(0, 2, 0), 0);
        Check.says(13, "S pays for one that is IN");
        PotAndFine out = Check.of("F1", "S09P20P12Z");
        out.send(1, 5);
        out.tell(0, 5, 0);
        due("paid(0, 1, 5), OUT", out.paid(0, 1, 5), 0);
        due("paid(0, 2, 5): 12 of a mean of 4", out.paid(0, 2, 5), 8);
        out.send(0, 5);
        due("paid(0, 2, 5), S is OUT", out.paid(0, 2, 5), 0);
        PotAndFine first = Check.of("F1", "P20S09P12Z");
        first.tell(1, 5, 0);
        due("paid(1, 0, 5): 20 of a mean of 8", first.paid(1, 0, 5), 9);
        first.send(0, 5);
        due("paid(1, 0, 5), OUT", first.paid(1, 0, 5), 0);
        due("paid(1, 2, 5): 12 of a mean of 4", first.paid(1, 2, 5), 8);
    }

    private static void spiteNineAtMost() {
        Check.says(13, "S: 9 at most");
        // 0 five times and 20: the mean is 3.
        int[] want = {0, 1, 3, 5, 7, 9, 9, 9, 9, 9};
        for (int a = 0; a <= 9; a++) {
            PotAndFine x = Check.of("F1", "S0" + a + "ZZZZP20");
            x.tell(0, 0, 0);
            due("paid(0, 5, 0), anger " + a, x.paid(0, 5, 0), want[a]);
        }
    }

    private static void vengeanceTogether() {
        Check.says(13, "V pays as G does, and what each other one paid to fine it in the ROUND before, 9 at most together");
        for (int back = 0; back <= 9; back++) {
            PotAndFine x = Check.of("F1", "V09G09");
            Check.tellRound(x, 0, 0, 2 * back);
            due("paid(1, 0, 0)", x.paid(1, 0, 0), back);
            for (int less = 0; less <= 10; less++) {
                Check.tellRound(x, 1, 2 * less, 0);
                due("paid(0, 1, 1): " + less + " and " + back, x.paid(0, 1, 1), Math.min(9, less + back));
            }
        }
        PotAndFine cut = Check.of("F1", "V05G09");
        Check.tellRound(cut, 0, 0, 6);
        Check.tellRound(cut, 1, 2, 0);
        due("paid(0, 1, 1): 1 by 5 of 9 is nothing, and 3", cut.paid(0, 1, 1), 3);
        PotAndFine calm = Check.of("F1", "V00G09");
        Check.tellRound(calm, 0, 0, 6);
        Check.tellRound(calm, 1, 20, 0);
        due("paid(0, 1, 1), no anger: 3", calm.paid(0, 1, 1), 3);
        // Each other one by itself: both paid 9, both are paid 9.
        PotAndFine both = Check.of("F1", "V09G09G09");
        Check.tellRound(both, 0, 0, 20, 20);
        Check.tellRound(both, 1, 10, 10, 10);
        due("paid(0, 1, 1)", both.paid(0, 1, 1), 9);
        due("paid(0, 2, 1)", both.paid(0, 2, 1), 9);
    }

    private static void vengeanceOfTheRoundBefore() {
        Check.says(13, "V: in the ROUND before");
        PotAndFine x = Check.of("F1", "V09G09");
        Check.tellRound(x, 0, 0, 12);
        Check.tellRound(x, 1, 10, 10);
        Check.tellRound(x, 2, 10, 10);
        due("paid(0, 1, 0): there is none before", x.paid(0, 1, 0), 0);
        due("paid(0, 1, 1)", x.paid(0, 1, 1), 6);
        due("paid(0, 1, 2): G paid nothing in ROUND 1", x.paid(0, 1, 2), 0);
        Check.tellRound(x, 38, 0, 12);
        Check.tellRound(x, 39, 10, 10);
        due("paid(0, 1, 39)", x.paid(0, 1, 39), 6);
        x.fine(0);
        due("paid(0, 1, 39) by F 0", x.paid(0, 1, 39), 0);
        // S fined it, and V fines it for that; two V go on with it.
        PotAndFine spite = Check.of("F1", "S09V09");
        Check.tellRound(spite, 0, 4, 10);
        Check.tellRound(spite, 1, 10, 10);
        due("paid(0, 1, 0)", spite.paid(0, 1, 0), 3);
        due("paid(1, 0, 1)", spite.paid(1, 0, 1), 3);
        PotAndFine feud = Check.of("F1", "V09V09");
        Check.tellRound(feud, 0, 0, 6);
        for (int round = 1; round < 6; round++) {
            Check.tellRound(feud, round, 10, 10);
            due("paid(0, 1, " + round + ")", feud.paid(0, 1, round), round % 2 == 1 ? 3 : 0);
            due("paid(1, 0, " + round + ")", feud.paid(1, 0, round), round % 2 == 1 ? 0 : 3);
        }
    }

    private static void vengeanceOnWhoIsIn() {
        Check.says(13, "V: what each other one that is IN paid to fine it");
        PotAndFine x = Check.of("F1", "V09G09P10P10");
        Check.tellRound(x, 3, 2, 10, 10, 10);
        Check.tellRound(x, 4, 10, 10, 10, 10);
        due("paid(1, 0, 3): 2 of a mean of 8", x.paid(1, 0, 3), 6);
        due("paid(0, 1, 4)", x.paid(0, 1, 4), 6);
        x.send(1, 4);
        due("paid(1, 0, 3)", x.paid(1, 0, 3), 6);
        due("paid(0, 1, 4), it is OUT", x.paid(0, 1, 4), 0);
        x.send(1, 5);
        due("paid(0, 1, 4), it is IN", x.paid(0, 1, 4), 6);
    }

    private static void paymentsAreRefused() {
        Check.says(13, "UNKNOWN: people, round; BAD: both are one");
        PotAndFine x = Check.of("F1", "G09ZZ");
        due("paid(0, 1, 0): 10 by three", x.paid(0, 1, 0), 3);
        for (int person : Check.noPerson(3)) {
            due("paid(" + person + ", 0, 0)", x.paid(person, 0, 0), UNKNOWN);
            due("paid(0, " + person + ", 0)", x.paid(0, person, 0), UNKNOWN);
            due("paid(" + person + ", " + person + ", 0)", x.paid(person, person, 0), UNKNOWN);
        }
        for (int round : Check.NO_ROUND) {
            due("paid(0, 1, " + round + ")", x.paid(0, 1, round), UNKNOWN);
            due("paid(0, 0, " + round + ")", x.paid(0, 0, round), UNKNOWN);
        }
        for (int person = 0; person < 3; person++) {
            due("paid of one to itself", x.paid(person, person, 0), BAD);
            due("paid of one to itself", x.paid(person, person, 39), BAD);
        }
        due("paid(1, 2, 39)", x.paid(1, 2, 39), 0);
    }

    // -- promises 14 and 15

    private static void pots() {
        Check.says(14, "All COINS that were put in a ROUND");
        due("pot(0), nothing", new PotAndFine().pot(0), 0);
        PotAndFine full = Check.of("", "P20P20P20P20P20P20");
        due("pot(0), all", full.pot(0), 120);
        due("pot(39), all", full.pot(39), 120);
        for (int person = 0; person < 4; person++) {
            full.send(person, 39 - person);
        }
        for (int round = 35; round < 40; round++) {
            due("pot(" + round + ")", full.pot(round), 120 - 20 * (round - 35));
        }
    }

    private static void heres() {
        Check.says(15, "How many are IN");
        for (int size = 2; size <= 6; size++) {
            PotAndFine x = Check.of("", "ZZZZZZ".substring(0, size));
            due("here(0)", x.here(0), size);
            due("here(39)", x.here(39), size);
            for (int person = 0; person < size - 2; person++) {
                x.send(person, 10 * person);
            }
            for (int round = 0; round < 40; round++) {
                due("here(" + round + ")", x.here(round), Math.max(2, size - 1 - round / 10));
            }
        }
    }

    // -- promises 16 to 18

    private static void sharesAreEven() {
        Check.says(16, "of the pot all COINS that were put times M by ten times how many are IN, in PARTS");
        int[] share = {30, 20, 15, 12, 10};
        for (int size = 2; size <= 6; size++) {
            PotAndFine x = Check.of("M01", "P01" + "ZZZZZ".substring(0, size - 1));
            due("holds(0, 0) of " + size, x.holds(0, 0), SUM + 19 * 600 + share[size - 2]);
            due("holds(1, 0) of " + size, x.holds(1, 0), SUM + 20 * 600 + share[size - 2]);
            due("holds(1, 39) of " + size, x.holds(1, 39), SUM + 40 * (20 * 600 + share[size - 2]));
        }
        PotAndFine nothing = Check.of("M00", "P20P20");
        due("holds(0, 39) with M 00", nothing.holds(0, 39), SUM);
        PotAndFine sent = Check.of("M01", "P01ZZ");
        sent.send(2, 1);
        due("holds(1, 0) of three", sent.holds(1, 0), SUM + 12000 + 20);
        due("holds(1, 1) of two then", sent.holds(1, 1), SUM + 24000 + 20 + 30);
    }

    private static void whatIsLost() {
        Check.says(16, "pays 600 C for each COIN that it pays to fine; loses 600 F for each that is paid to fine it");
        for (int x = 1; x <= 9; x++) {
            // 0 and 10: the mean is 5, G pays 5; 10 coins make 9600.
            PotAndFine cost = Check.of("F1C" + x, "ZG09");
            due("holds(1, 0) by C " + x, cost.holds(1, 0), SUM + 6000 + 4800 - 600 * 5 * x);
            due("holds(0, 0) by C " + x, cost.holds(0, 0), SUM + 12000 + 4800 - 600 * 5);
            PotAndFine fine = Check.of("F" + x, "ZG09");
            due("holds(1, 0) by F " + x, fine.holds(1, 0), SUM + 6000 + 4800 - 600 * 5);
            due("holds(0, 0) by F " + x, fine.holds(0, 0), SUM + 12000 + 4800 - 600 * 5 * x);
        }
    }

    private static void heldBelowNothing() {
        Check.says(16, "0 ahead of ROUND 0; it may be less than 0");
        PotAndFine x = Check.of("F9", "ZG09G09G09G09G09");
        for (int round = 0; round < 40; round++) {
            Check.tellRound(x, round, 0, 20, 20, 20, 20, 20);
        }
        // The mean is 16; five pay 9 each. 100 coins make 96000, 16000 to each.
        due("holds(0, 0)", x.holds(0, 0), SUM + 12000 + 16000 - 45 * 9 * 600);
        due("holds(0, 39)", x.holds(0, 39), SUM + 40L * (28000 - 243000));
        due("lost(0, 39)", x.lost(0, 39), 40 * 405);
        due("all(39, false)", x.all(39, false), SUM + 40L * (28000 - 243000) + 40L * 5 * (16000 - 5400));
    }

    private static void heldByWhoIsOut() {
        Check.says(16, "in a ROUND one that is IN gets");
        PotAndFine x = Check.of("", "ZZZ");
        x.send(0, 0);
        due("holds(0, 0), OUT from 0 on", x.holds(0, 0), SUM);
        due("holds(0, 39), OUT from 0 on", x.holds(0, 39), SUM);
        x.send(0, 39);
        due("holds(0, 38)", x.holds(0, 38), SUM + 39 * 12000);
        due("holds(0, 39)", x.holds(0, 39), SUM + 39 * 12000);
        due("holds(1, 39)", x.holds(1, 39), SUM + 40 * 12000);
    }

    private static void heldMost() {
        Check.says(16, "Sums of PARTS are longs, and 1000000000 is added to them");
        PotAndFine x = Check.of("M60", "P20P20P20P20P20P20");
        due("holds(5, 39)", x.holds(5, 39), SUM + 40L * 72000);
        due("all(39, false)", x.all(39, false), SUM + 240L * 72000);
        due("all(39, true)", x.all(39, true), SUM + 240L * 72000);
        due("all(0, false)", x.all(0, false), SUM + 6L * 72000);
    }

    private static void sumsOfAll() {
        Check.says(17, "ALL is what all HOLD together (those that are OUT, too)");
        PotAndFine x = Check.of("", "ZZZZZZ");
        for (int person = 0; person < 4; person++) {
            x.send(person, person);
        }
        due("all(0, false)", x.all(0, false), SUM + 5 * 12000);
        due("all(2, false)", x.all(2, false), SUM + 12 * 12000);
        due("all(39, false)", x.all(39, false), SUM + (0 + 1 + 2 + 3 + 40 + 40) * 12000);
        due("all(39, true)", x.all(39, true), SUM + 86 * 12000);
        Check.says(17, "WITHOUT FINES is the same with F 0");
        PotAndFine fined = Check.of("F1C1", "ZG09");
        due("all(0, false)", fined.all(0, false), SUM + 27600 - 10 * 600);
        due("all(0, true)", fined.all(0, true), SUM + 27600);
        fined.fine(0);
        due("all(0, false) by F 0", fined.all(0, false), SUM + 27600);
        due("all(0, true) by F 0", fined.all(0, true), SUM + 27600);
    }

    private static void lostUpToARound() {
        Check.says(18, "What one lost by FINES up to a ROUND, in COINS");
        PotAndFine x = Check.of("F3C2", "P00G09P00");
        for (int round = 0; round < 40; round++) {
            x.tell(1, round, 12);
        }
        // 0, 12, 0: the mean is 4; G pays 4 for each.
        for (int round = 0; round < 40; round++) {
            due("lost(0, " + round + ")", x.lost(0, round), 12 * (round + 1));
            due("lost(1, " + round + ")", x.lost(1, round), 16 * (round + 1));
        }
        x.send(0, 20);
        due("lost(0, 19)", x.lost(0, 19), 240);
        due("lost(0, 20), OUT", x.lost(0, 20), 240);
        due("lost(0, 39), OUT", x.lost(0, 39), 240);
        x.send(0, 0);
        due("lost(0, 39), OUT always", x.lost(0, 39), 0);
        x.fine(0);
        due("lost(1, 39) by F 0", x.lost(1, 39), 0);
    }

    private static void roundsAreRefused() {
        PotAndFine x = Check.of("F1", "G09ZZ");
        for (int round : Check.NO_ROUND) {
            Check.says(14, "UNKNOWN");
            due("pot(" + round + ")", x.pot(round), UNKNOWN);
            Check.says(15, "UNKNOWN");
            due("here(" + round + ")", x.here(round), UNKNOWN);
            Check.says(16, "UNKNOWN");
            due("holds(0, " + round + ")", x.holds(0, round), UNKNOWN);
            Check.says(17, "UNKNOWN");
            due("all(" + round + ", false)", x.all(round, false), UNKNOWN);
            due("all(" + round + ", true)", x.all(round, true), UNKNOWN);
            Check.says(18, "UNKNOWN");
            due("lost(0, " + round + ")", x.lost(0, round), UNKNOWN);
        }
        for (int person : Check.noPerson(3)) {
            Check.says(16, "UNKNOWN");
            due("holds(" + person + ", 0)", x.holds(person, 0), UNKNOWN);
            due("holds(" + person + ", 40)", x.holds(person, 40), UNKNOWN);
            Check.says(18, "UNKNOWN");
            due("lost(" + person + ", 0)", x.lost(person, 0), UNKNOWN);
            due("lost(" + person + ", 40)", x.lost(person, 40), UNKNOWN);
        }
        Check.says(16, "the last PERSON and ROUND that there are");
        due("holds(2, 39)", x.holds(2, 39) > SUM ? 1 : 0, 1);
        due("lost(2, 39)", x.lost(2, 39), 3);
    }

    private static void theLastOfManyCalls() {
        Check.says(0, "An object is used for at most 512 calls");
        PotAndFine x = Check.of("F3C2", "L3G09S09V09P20Z");
        long led = x.led();
        int part = x.part();
        // These were calls 1 to 9; what stands behind the loop is 510 to 512.
        for (int call = 0; call < 125; call++) {
            x.tell(call % 6, call % 40, call % 21);
            x.leader();
            x.whom();
            x.tell(call % 6, call % 40, NONE);
        }
        due("led()", x.led(), led);
        due("part()", x.part(), part);
        due("put(4, 39)", x.put(4, 39), 20);
    }
}
