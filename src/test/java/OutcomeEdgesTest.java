/** The edges that the document names of what it comes to: part 3 of its terms, promises 19 to 31. */
public final class OutcomeEdgesTest {
    private static final int UNKNOWN = Check.UNKNOWN, BAD = Check.BAD, LATE = Check.LATE, NONE = Check.NONE;
    private static final long SUM = Check.SUM;

    public static void main(String[] args) {
        fallByHalf();
        fallOfNothing();
        fallFirstAndLast();
        paysFirstAndLast();
        paysOnlyIfGreater();
        paysFromThereOn();
        paysNever();
        voteOnlyIfMore();
        voteOfAllAndOfNone();
        voteOfWhoIsOut();
        voteIsRefused();
        leastJustEnough();
        leastOfNoughtAndTwenty();
        leastByThoseThatAreIn();
        leastIsRefused();
        leaderOfLikeOnes();
        leaderAmongAll();
        leaderInsteadOfWhatIsTold();
        leaderBelowNothing();
        leaderThatIsOut();
        whomOfLikeOnes();
        whomOfTwoAndThree();
        whomOfThoseThatCan();
        whomBelowNothing();
        withoutInsteadOfWhenItIs();
        withoutIsRefused();
        partsOfFourAndSix();
        partsOfLikeOnes();
        everyPartOfFour();
        everyPartOfSix();
        partsInOrderOfNumbers();
        partsWithNothingTold();
        partsBelowNothing();
        replyOfLikeOnes();
        replyUpToAllCoins();
        replyWithFines();
        replyByWhatWasPaidBefore();
        replyIsRefused();
        gainsOfAllPuts();
        gainIsRefused();
        restOfThoseThatAreIn();
        restByEachOnesOwnReply();
        restOfLikeOnes();
        restIsRefused();
        Check.end();
    }

    private static void due(String call, long got, long want) {
        Check.due(call, got, want);
    }

    // -- promise 19

    private static void fallByHalf() {
        Check.says(19, "put no more than half of what they put in ROUND 0");
        for (int first = 1; first <= 20; first++) {
            PotAndFine x = Check.of("", "P" + Check.two(first) + "Z");
            for (int v = 0; v <= first; v++) {
                x.tell(0, 7, v);
                due("fall(), " + v + " of " + first, x.fall(), 2 * v <= first ? 7 : NONE);
            }
        }
    }

    private static void fallOfNothing() {
        Check.says(19, "NONE: in none, or nothing was put in ROUND 0");
        due("fall() of ZZ", new PotAndFine().fall(), NONE);
        PotAndFine later = Check.of("", "P20P20");
        later.tell(0, 0, 0);
        later.tell(1, 0, 0);
        later.tell(0, 3, 0);
        later.tell(1, 3, 0);
        due("fall(), nothing in ROUND 0, more later", later.fall(), NONE);
        later.tell(1, 0, 1);
        due("fall(), 1 in ROUND 0, nothing in ROUND 3", later.fall(), 3);
        due("fall(), always as much", Check.of("", "P01Z").fall(), NONE);
    }

    private static void fallFirstAndLast() {
        Check.says(19, "THE FALL: the first ROUND");
        PotAndFine x = Check.of("", "P10P10");
        Check.tellRound(x, 39, 0, 10);
        due("fall() in 39", x.fall(), 39);
        Check.tellRound(x, 20, 10, 0);
        due("fall() in 20 and 39", x.fall(), 20);
        Check.tellRound(x, 1, 5, 5);
        due("fall() in 1, 20 and 39", x.fall(), 1);
        Check.tellRound(x, 1, 5, 6);
        due("fall() in 20 and 39", x.fall(), 20);
        PotAndFine out = Check.of("", "P10P05P05");
        out.send(0, 5);
        due("fall(): who is OUT puts nothing", out.fall(), 5);
    }

    // -- promise 20

    /** L and one that fines, all told 10 in ROUNDS 0 .. 39, so that nobody is fined. */
    private static PotAndFine calm(String rule, String learner) {
        PotAndFine x = Check.of(rule, learner + "G09");
        for (int round = 0; round < 40; round++) {
            Check.tellRound(x, round, 10, 10);
        }
        return x;
    }

    /** L puts 2 less than G, which pays 1; in the next ROUND L puts 8 and F, without fines 8 less d. */
    private static void fined(PotAndFine x, int round) {
        x.tell(0, round, 8);
        if (round < 39) {
            x.tell(0, round + 1, NONE);
        }
    }

    private static void paysFirstAndLast() {
        Check.says(20, "PAYS: the first ROUND from which on ALL behind each ROUND (to 39) is greater");
        // With M 20 a coin more is worth a coin: 2 lost by the fine, 3 got by 9 instead of 6.
        PotAndFine last = calm("M20F1C1", "L2");
        fined(last, 38);
        due("all(38, false)", last.all(38, false) - last.all(38, true), -1200);
        due("all(39, false)", last.all(39, false) - last.all(39, true), 600);
        due("pays() in 39", last.pays(), 39);
        PotAndFine first = calm("M20F1C1", "L2");
        fined(first, 0);
        due("all(0, false)", first.all(0, false) - first.all(0, true), -1200);
        due("pays() from 1 on", first.pays(), 1);
        PotAndFine end = calm("M20F1C1", "L2");
        fined(end, 39);
        due("pays(), only a loss in 39", end.pays(), NONE);
    }

    private static void paysOnlyIfGreater() {
        Check.says(20, "is greater than WITHOUT FINES");
        // L1: 2 lost by the fine, 2 got by 9 instead of 7.
        PotAndFine x = calm("M20F1C1", "L1");
        fined(x, 38);
        due("all(39, false)", x.all(39, false) - x.all(39, true), 0);
        due("pays(), just as much", x.pays(), NONE);
        PotAndFine early = calm("M20F1C1", "L1");
        fined(early, 0);
        due("pays(), just as much from 1 on", early.pays(), NONE);
        due("pays(), nobody is fined", calm("M20F9", "L2").pays(), NONE);
    }

    private static void paysFromThereOn() {
        Check.says(20, "from which on ALL behind each ROUND (to 39) is greater");
        PotAndFine x = calm("M20F1C1", "L2");
        fined(x, 0);
        due("pays()", x.pays(), 1);
        // A loss of 2 in ROUND 20 that brings nothing, as L is told 10 again.
        x.tell(0, 20, 8);
        due("all(20)", x.all(20, false) - x.all(20, true), -600);
        due("pays(), less from 20 on", x.pays(), NONE);
        fined(x, 30);
        due("all(31)", x.all(31, false) - x.all(31, true), 0);
        due("pays(), as much from 31 on", x.pays(), NONE);
        fined(x, 34);
        due("all(35)", x.all(35, false) - x.all(35, true), 600);
        due("pays(), more from 35 on", x.pays(), 35);
        // In ROUND 39 it is lost again.
        x.tell(0, 39, 8);
        due("pays(), less in 39", x.pays(), NONE);
    }

    private static void paysNever() {
        Check.says(20, "NONE");
        due("pays() of ZZ", new PotAndFine().pays(), NONE);
        due("pays() by F 0", Check.of("M60F0", "L9G09P20").pays(), NONE);
        PotAndFine x = Check.of("F9", "ZG09");
        due("pays(), only lost", x.pays(), NONE);
    }

    // -- promise 21

    private static void voteOnlyIfMore() {
        Check.says(21, "THE VOTE: PEOPLE that HOLD more behind a ROUND than WITHOUT FINES");
        // With M 40 each of two gets 2 for a coin: L loses 3 by the fine, and gets 3 by 11 instead of 8.
        PotAndFine x = calm("M40F3C1", "L0");
        fined(x, 0);
        due("vote(0): both lost", x.vote(0), 0);
        due("holds(0, 1)", x.holds(0, 1), SUM + 2 * 600 * 10 + 2 * 600 * 2 * 18 + 600 * (2 - 3 - 1) + 600 * 2 * 3);
        due("vote(1): L as much, G more", x.vote(1), 2);
        due("vote(39)", x.vote(39), 2);
        // With M 44 a coin more is worth 2.2 for each: L has more, too.
        Check.rule(x, "M44F3C1");
        due("vote(1): both more", x.vote(1), 3);
        // G pays 6 for its coin and gets 6 by 3 coins more of L.
        Check.rule(x, "M40F3C6");
        due("vote(1): both as much", x.vote(1), 0);
        Check.rule(x, "M40F3C7");
        due("vote(1): L as much, G less", x.vote(1), 0);
        Check.rule(x, "M44F3C7");
        due("vote(1): L more, G less", x.vote(1), 1);
    }

    private static void voteOfAllAndOfNone() {
        Check.says(21, "as bits");
        due("vote(0) of ZZ", new PotAndFine().vote(0), 0);
        // L is fined 6 in ROUND 0; then it puts 20 instead of 10: 6 times 10 coins by six, 10 more for each.
        PotAndFine x = Check.of("M60F2", "L0P20P20P20P20G09");
        x.tell(5, 0, 20);
        // 10, 20, 20, 20, 20, 20: the mean is 18; G pays 8, L loses 16, then has 10 more and 10 less each ROUND.
        due("vote(0)", x.vote(0), 0);
        due("vote(1): the four that were not fined, and G", x.vote(1), 62);
        due("vote(39): L has 16 less still, but for what G puts more", x.vote(39), 63);
    }

    private static void voteOfWhoIsOut() {
        Check.says(21, "PEOPLE that HOLD more: those that are OUT, too");
        PotAndFine x = Check.of("M60F2", "L0P20P20P20P20G09");
        x.tell(5, 0, 20);
        x.send(1, 2);
        x.send(2, 1);
        // 1 was there in ROUND 1 and got more; 2 was there in ROUND 0 alone and got as much.
        due("vote(1)", x.vote(1), 62 - 4);
        due("vote(39)", x.vote(39) & 6, 2);
    }

    private static void voteIsRefused() {
        Check.says(21, "UNKNOWN");
        PotAndFine x = Check.of("F1", "ZG09");
        for (int round : Check.NO_ROUND) {
            due("vote(" + round + ")", x.vote(round), UNKNOWN);
        }
        due("vote(0)", x.vote(0), 0);
        due("vote(39)", x.vote(39), 0);
    }

    // -- promise 22

    private static void leastJustEnough() {
        Check.says(22, "the least F (0 .. 9) by which all put x times as many COINS as they are, together at least; NONE");
        // In ROUND 1 L puts 8 and F, or 8 less 1 by F 0; G puts what is told, 10 or 11.
        PotAndFine x = calm("", "L1");
        fined(x, 0);
        for (int coins = 0; coins <= 20; coins++) {
            int want = 2 * coins <= 17 ? 0 : 2 * coins - 18 <= 1 ? 1 : 2 * coins - 18 <= 9 ? 2 * coins - 18 : NONE;
            due("least(1, " + coins + ")", x.least(1, coins), want);
        }
        due("least(1, 9): 18 by 19 of F 1", x.least(1, 9), 1);
        due("least(1, 13): 26", x.least(1, 13), 8);
        due("least(1, 14): 28", x.least(1, 14), NONE);
        x.tell(1, 1, 11);
        due("least(1, 14): 28 by F 9", x.least(1, 14), 9);
        due("least(1, 15)", x.least(1, 15), NONE);
        due("ruled(2): F stays", x.ruled(2), 0);
        x.fine(7);
        due("least(1, 14) whatever F is", x.least(1, 14), 9);
        due("ruled(2)", x.ruled(2), 7);
    }

    private static void leastOfNoughtAndTwenty() {
        Check.says(22, "x (0 .. 20)");
        PotAndFine none = new PotAndFine();
        due("least(0, 0), nothing put", none.least(0, 0), 0);
        due("least(39, 0), nothing put", none.least(39, 0), 0);
        due("least(0, 1), nothing put", none.least(0, 1), NONE);
        PotAndFine full = Check.of("F9", "P20P20P20P20P20P20");
        due("least(0, 20), all put", full.least(0, 20), 0);
        due("least(39, 20), all put", full.least(39, 20), 0);
        full.tell(3, 39, 19);
        due("least(39, 20), 1 less", full.least(39, 20), NONE);
        due("least(39, 19)", full.least(39, 19), 0);
    }

    private static void leastByThoseThatAreIn() {
        Check.says(22, "all that are IN: x times as many COINS as they are");
        PotAndFine x = Check.of("", "P10P10Z");
        due("least(4, 7): 20 of 21", x.least(4, 7), NONE);
        due("least(4, 6): 20 of 18", x.least(4, 6), 0);
        x.send(2, 4);
        due("least(4, 10), two are IN", x.least(4, 10), 0);
        due("least(4, 11)", x.least(4, 11), NONE);
        due("least(3, 7), three are IN", x.least(3, 7), NONE);
    }

    private static void leastIsRefused() {
        Check.says(22, "UNKNOWN: round; BAD: x (0 .. 20)");
        PotAndFine x = Check.of("F3", "P20P20");
        for (int round : Check.NO_ROUND) {
            due("least(" + round + ", 0)", x.least(round, 0), UNKNOWN);
            due("least(" + round + ", 21)", x.least(round, 21), UNKNOWN);
            due("least(" + round + ", -1)", x.least(round, -1), UNKNOWN);
        }
        for (int coins : new int[] {-1, 21, -9, Check.LOWEST, Check.HIGHEST}) {
            due("least(0, " + coins + ")", x.least(0, coins), BAD);
            due("least(39, " + coins + ")", x.least(39, coins), BAD);
        }
        due("least(0, 20)", x.least(0, 20), 0);
    }

    // -- promises 23 and 24

    private static void leaderOfLikeOnes() {
        Check.says(23, "of like ones the least");
        due("leader() of ZZ", new PotAndFine().leader(), 0);
        due("leader() of six", Check.of("", "P20P20P20P20P20P20").leader(), 0);
        due("leader(), 1 and 2 alike", Check.of("", "P20ZZP10").leader(), 1);
        due("leader() where a coin is worth itself", Check.of("M10", "P03P20Z").leader(), 0);
        due("led() where a coin is worth itself", Check.of("M10", "P03P20Z").led(), SUM + 40 * 36000);
    }

    private static void leaderAmongAll() {
        Check.says(23, "the one that would make ALL behind ROUND 39 greatest");
        for (int size = 2; size <= 6; size++) {
            for (int person = 0; person < size; person++) {
                StringBuilder people = new StringBuilder();
                for (int one = 0; one < size; one++) {
                    people.append(one == person ? "P18" : "P19");
                }
                PotAndFine x = Check.of("", people.toString());
                due("leader() of " + people, x.leader(), person);
                long all = 40L * (600 * 20 * size + 360 * (19 * size - 1));
                due("led() of " + people, x.led(), SUM + all + 2 * 360);
                due("all(39, false)", x.all(39, false), SUM + all);
            }
        }
        Check.says(23, "the one: of PEOPLE alone, be ALL less by each of them");
        for (int size = 2; size <= 6; size++) {
            PotAndFine x = Check.of("M00", "P10P10P10P10P10P10".substring(0, 3 * size));
            due("leader() of " + size, x.leader(), 0);
            due("led() of " + size, x.led(), SUM + 600L * (400 * size - 10));
            due("all(39, false) of " + size, x.all(39, false), SUM + 600L * 400 * size);
        }
    }

    private static void leaderInsteadOfWhatIsTold() {
        Check.says(23, "if its PUT in ROUND 0 were TOLD to be E");
        PotAndFine x = Check.of("E10", "P09P08Z");
        x.tell(2, 0, 10);
        due("leader(): 2 is told 10 already", x.leader(), 1);
        x.tell(1, 0, 20);
        due("leader(): 1 is told 20, puts 10", x.leader(), 0);
        x.tell(0, 0, 0);
        due("leader(): 0 is told 0", x.leader(), 0);
        due("led()", x.led(), SUM + 40L * (18000 + 17 * 360) + 360 * (30 - 17));
        due("tell(0, 0, NONE): what is told stays", x.tell(0, 0, NONE), 0);
        due("tell(1, 0, NONE)", x.tell(1, 0, NONE), 20);
        due("count(1)", x.count(1), 1);
    }

    private static void leaderBelowNothing() {
        Check.says(23, "greatest, where ALL is less than 0");
        // M 00: 0 and 20, 9 paid and 81 lost in each ROUND; told 20 in ROUND 0 nobody is fined there.
        PotAndFine x = Check.of("M00F9C9", "G09Z");
        for (int round = 0; round < 40; round++) {
            x.tell(0, round, 20);
        }
        long round = 600L * (20 - 9 * 9 - 9 * 9);
        due("all(39, false)", x.all(39, false), SUM + 40 * round);
        due("leader()", x.leader(), 1);
        due("led()", x.led(), SUM + 39 * round);
    }

    private static void leaderThatIsOut() {
        Check.says(23, "THE LEADER: telling one that is OUT changes nothing");
        PotAndFine x = Check.of("M00", "P10ZP10");
        x.send(1, 0);
        due("leader() where coins are lost", x.leader(), 1);
        due("led()", x.led(), SUM + 80 * 6000);
        PotAndFine last = Check.of("", "ZZZ");
        last.send(0, 0);
        due("leader() where coins are won", last.leader(), 1);
    }

    // -- promises 25 and 26

    private static void whomOfLikeOnes() {
        Check.says(25, "of like ones the least");
        due("whom() of three", Check.of("", "ZZZ").whom(), 0);
        due("whom() of six", Check.of("", "P20P20P20P20P20P20").whom(), 0);
        due("whom(), 1 and 2 alike", Check.of("", "P10ZZP10").whom(), 1);
        for (int person = 0; person < 6; person++) {
            StringBuilder people = new StringBuilder();
            for (int one = 0; one < 6; one++) {
                people.append(one == person ? "P05" : "P06");
            }
            due("whom() of " + people, Check.of("", people.toString()).whom(), person);
        }
    }

    private static void whomOfTwoAndThree() {
        Check.says(25, "LATE: there is none of those");
        PotAndFine two = Check.of("", "P05Z");
        due("whom() of two", two.whom(), LATE);
        due("without(0) of two", two.without(0), LATE);
        due("without(1) of two", two.without(1), LATE);
        PotAndFine three = Check.of("", "P05P10Z");
        due("whom() of three", three.whom(), 2);
        due("without(0) of three", three.without(0), SUM + 40L * (24000 + 3600));
        due("without(2) of three", three.without(2), SUM + 40L * (24000 + 5400));
    }

    private static void whomOfThoseThatCan() {
        Check.says(25, "those without whom two at least of the others would be IN always");
        for (int round : new int[] {0, 1, 39}) {
            PotAndFine x = Check.of("", "ZP10P20");
            x.send(2, round);
            due("whom(), two are IN at the end", x.whom(), 2);
            due("without(0)", x.without(0), LATE);
            due("without(1)", x.without(1), LATE);
            due("without(2)", x.without(2), SUM + 40L * (24000 + 3600));
        }
        PotAndFine four = Check.of("", "P10P10ZP20");
        four.send(3, 39);
        due("whom(), three are IN at the end", four.whom(), 2);
        due("without(0) is no refusal", four.without(0) > SUM ? 1 : 0, 1);
        four.send(2, 0);
        due("whom(), two are IN at the end", four.whom(), 2);
        due("without(0)", four.without(0), LATE);
        due("without(1)", four.without(1), LATE);
    }

    private static void whomBelowNothing() {
        Check.says(25, "all others would HOLD most, where that is less than 0");
        PotAndFine x = Check.of("M00F9C9", "G09ZZ");
        for (int round = 0; round < 40; round++) {
            x.tell(0, round, 20);
        }
        // Without 1 or 2: 20 and 0, G pays 9. Without 0 nobody fines.
        long pair = 40L * 600 * (20 - 81 - 81);
        due("without(0)", x.without(0), SUM + 40L * 24000);
        due("without(1)", x.without(1), SUM + pair);
        due("without(2)", x.without(2), SUM + pair);
        due("whom()", x.whom(), 0);
        // G is OUT from 39 on, so that it alone can be spared; with four 1 and 2 fine, and all is less than 0.
        PotAndFine y = Check.of("M00F9C9", "G09G09Z");
        for (int round = 0; round < 40; round++) {
            Check.tellRound(y, round, 20, 20);
        }
        due("without(0)", y.without(0), SUM + pair);
        due("without(1)", y.without(1), SUM + pair);
        y.send(2, 0);
        due("whom(), nobody is fined", y.whom(), 2);
        due("without(2)", y.without(2), SUM);
        y.send(2, 40);
        y.send(0, 5);
        due("whom(): only 0 can be spared, all hold less than 0", y.whom(), 0);
        due("without(0)", y.without(0), SUM + pair);
    }

    private static void withoutInsteadOfWhenItIs() {
        Check.says(26, "without one from ROUND 0 on (instead of when it is)");
        PotAndFine x = Check.of("", "P05P10ZM0");
        long all = x.without(3);
        for (int round : new int[] {0, 1, 20, 39}) {
            x.send(3, round);
            due("without(3)", x.without(3), all);
            due("send(3, " + round + "): it stays as it was", x.send(3, round), round);
        }
        due("without(3)", all, SUM + 40L * (36000 + 15 * 360));
        Check.says(26, "what all others HOLD: those that are OUT, too");
        x.send(3, 1);
        // 3 and its 10 coins in ROUND 0 count where 2 is left out: 5, 10, 10.
        due("without(2)", x.without(2), SUM + 36000 + 25 * 360 + 39L * (24000 + 15 * 360));
    }

    private static void withoutIsRefused() {
        Check.says(26, "UNKNOWN: person; LATE: fewer than two would be IN in some ROUND");
        for (String people : new String[] {"ZZ", "ZZZ", "ZZZZZZ"}) {
            PotAndFine x = Check.of("", people);
            for (int person : Check.noPerson(people.length())) {
                due("without(" + person + ") of " + people, x.without(person), UNKNOWN);
            }
            for (int person = 0; person < people.length(); person++) {
                long want = people.length() == 2 ? LATE : SUM + 40L * 12000 * (people.length() - 1);
                due("without(" + person + ") of " + people, x.without(person), want);
            }
        }
        PotAndFine six = Check.of("", "ZZZZZZ");
        for (int person = 0; person < 3; person++) {
            six.send(person, 39);
        }
        due("without(5), three are IN at the end", six.without(5), SUM + 12000L * (3 * 39 + 2 * 40));
        six.send(3, 39);
        due("without(5), two are IN at the end", six.without(5), LATE);
        due("without(3), it is OUT itself", six.without(3), SUM + 12000L * (3 * 39 + 2 * 40));
        due("count(2): nobody is sent by it", six.count(2), 4);
    }

    // -- promises 27 and 28

    private static void partsOfFourAndSix() {
        Check.says(27, "LATE: PEOPLE are not four or six");
        for (int size = 2; size <= 6; size++) {
            PotAndFine x = Check.of("", "ZZZZZZ".substring(0, size));
            boolean can = size == 4 || size == 6;
            due("part() of " + size, x.part(), size == 4 ? 3 : size == 6 ? 7 : LATE);
            due("parted() of " + size, x.parted(), can ? SUM + 40L * 12000 * size : LATE);
        }
        // Who is OUT is of the GROUP still.
        PotAndFine five = Check.of("", "ZZZZZ");
        five.send(0, 0);
        due("part() of five, four are IN", five.part(), LATE);
        PotAndFine six = Check.of("", "ZZZZZZ");
        six.send(0, 0);
        due("part() of six, five are IN", six.part(), 7);
    }

    private static void partsOfLikeOnes() {
        Check.says(27, "of like ones the least; PEOPLE of the one half as bits (with PERSON 0)");
        due("part() of four alike", Check.of("", "P05P05P05P05").part(), 3);
        due("part() of four that put always", Check.of("", "P05ZP20P07").part(), 3);
        due("part() of six alike", Check.of("", "M0M0M0M0M0M0").part(), 7);
    }

    /** Who matches and who puts 20 should be together, who never puts in the other half. */
    private static void everyPartOfFour() {
        Check.says(27, "so that both halves HOLD most together: of four");
        for (int other = 1; other < 4; other++) {
            StringBuilder first = new StringBuilder("M0");
            StringBuilder second = new StringBuilder("Z");
            for (int person = 1; person < 4; person++) {
                first.append(person == other ? "P20" : "Z");
                second.append(person == other ? "Z" : person == (other == 1 ? 2 : 1) ? "P20" : "M0");
            }
            long want = 6000 + 28800 + 39L * 38400 + 40L * 24000;
            PotAndFine x = Check.of("", first.toString());
            due("part() of " + first, x.part(), 1 + (1 << other));
            due("parted() of " + first, x.parted(), SUM + want);
            PotAndFine y = Check.of("", second.toString());
            due("part() of " + second, y.part(), 1 + (1 << other));
            due("parted() of " + second, y.parted(), SUM + want);
        }
    }

    private static void everyPartOfSix() {
        Check.says(27, "so that both halves HOLD most together: of six");
        for (int a = 1; a < 6; a++) {
            for (int b = a + 1; b < 6; b++) {
                StringBuilder people = new StringBuilder("M0");
                for (int person = 1; person < 6; person++) {
                    people.append(person == a || person == b ? "P20" : "Z");
                }
                PotAndFine x = Check.of("", people.toString());
                due("part() of " + people, x.part(), 1 + (1 << a) + (1 << b));
                // 50 coins in ROUND 0, 60 in all others.
                due("parted() of " + people, x.parted(),
                    SUM + 40L * 36000 + 36000 + 50 * 360 + 39L * (36000 + 60 * 360));
            }
        }
    }

    private static void partsInOrderOfNumbers() {
        Check.says(27, "both halves run by themselves, in order of numbers");
        // In ROUND 1 S puts 1 and pays for the least of those that put 10: L, which then puts more, or P, which does not.
        due("the order tells", Check.of("M60F1", "S99L0P10").all(39, false)
            != Check.of("M60F1", "S99P10L0").all(39, false) ? 1 : 0, 1);
        bestHalf("M60F1", "S99", "L0", "P10", "Z", "Z", "Z");
        bestHalf("M60F1", "S99", "P10", "L0", "Z", "Z", "Z");
        bestHalf("M60F1", "Z", "L0", "Z", "P10", "Z", "S99");
        bestHalf("M60F1", "P10", "Z", "Z", "L0", "S99", "Z");
        bestHalf("M40F3C9", "V09", "L3", "G29", "S99", "M1", "P20");
        bestHalf("M40F3C9", "L3", "V09", "S99", "G29");
    }

    /** Both halves are told as groups of their own. */
    private static void bestHalf(String rule, String... people) {
        PotAndFine x = Check.of(rule, String.join("", people));
        int best = 0;
        for (int bits = 1; bits < 1 << people.length; bits += 2) {
            if (2 * Integer.bitCount(bits) == people.length
                && (best == 0 || halves(rule, people, bits) > halves(rule, people, best))) {
                best = bits;
            }
        }
        due("part() of " + String.join("", people), x.part(), best);
        due("parted() of " + String.join("", people), x.parted(), halves(rule, people, best));
    }

    private static long halves(String rule, String[] people, int bits) {
        StringBuilder one = new StringBuilder();
        StringBuilder two = new StringBuilder();
        for (int person = 0; person < people.length; person++) {
            (((bits >> person) & 1) == 1 ? one : two).append(people[person]);
        }
        return Check.of(rule, one.toString()).all(39, false) + Check.of(rule, two.toString()).all(39, false) - SUM;
    }

    private static void partsWithNothingTold() {
        Check.says(27, "nothing TOLD, none OUT");
        PotAndFine x = Check.of("", "M0ZP20Z");
        long want = SUM + 6000 + 28800 + 39L * 38400 + 40L * 24000;
        due("part()", x.part(), 5);
        due("parted()", x.parted(), want);
        for (int round = 0; round < 40; round++) {
            Check.tellRound(x, round, 0, 20, 0, 20);
        }
        due("part(), told otherwise", x.part(), 5);
        due("parted(), told otherwise", x.parted(), want);
        x.send(0, 0);
        x.send(2, 0);
        due("part(), OUT", x.part(), 5);
        due("parted(), OUT", x.parted(), want);
        due("leader(): 1 and 3 put 20 already", x.leader(), 0);
        due("part() behind leader()", x.part(), 5);
        due("all(0, true)", x.all(0, true), SUM + 40 * 960);
        due("parted() behind all()", x.parted(), want);
        due("count(1): what is told stays", x.count(1), 160);
        due("count(2): who is OUT stays", x.count(2), 2);
        due("put(1, 39)", x.put(1, 39), 20);
        due("put(0, 39)", x.put(0, 39), NONE);
    }

    private static void partsBelowNothing() {
        Check.says(28, "What both halves HOLD together by it, where that is less than 0");
        // 10, 20, 20: the mean is 16, S pays 4 in ROUND 0: 36 and 36 lost; then all put 20 and get nothing.
        PotAndFine x = Check.of("M00F9C9", "S09P20P20S09P20P20");
        due("part()", x.part(), 7);
        due("parted()", x.parted(), SUM + 2 * 600 * (10 - 72));
        PotAndFine four = Check.of("M00F9C9", "S09P20S09P20");
        // 10 and 20: the mean is 15, S pays 5; both S together: 10 and 10, always, nothing lost.
        due("part() of four", four.part(), 5);
        due("parted() of four", four.parted(), SUM + 40L * 600 * 20);
    }

    // -- promises 29 and 30

    private static void replyOfLikeOnes() {
        Check.says(29, "so that it gets most; of like ones the least");
        // With M 20 and two a coin gives just itself back.
        PotAndFine x = Check.of("M20", "P07P11");
        due("reply(0, 0), all alike", x.reply(0, 0), 0);
        due("reply(1, 39), all alike", x.reply(1, 39), 0);
        Check.rule(x, "M19");
        due("reply(0, 0), a bit less back", x.reply(0, 0), 0);
        Check.rule(x, "M21");
        due("reply(0, 0), a bit more back", x.reply(0, 0), 20);
        due("reply(1, 39), a bit more back", x.reply(1, 39), 20);
        PotAndFine six = Check.of("M60", "ZZZZZZ");
        due("reply(5, 0) of six, all alike", six.reply(5, 0), 0);
        // One less that is IN: a coin gives 1.2 back.
        six.send(0, 3);
        due("reply(5, 2)", six.reply(5, 2), 0);
        due("reply(5, 3)", six.reply(5, 3), 20);
    }

    private static void replyUpToAllCoins() {
        Check.says(29, "what it should have PUT: 0 .. E");
        for (int coins = 1; coins <= 20; coins++) {
            PotAndFine x = Check.of("E" + Check.two(coins) + "M60", "P20Z");
            due("reply(0, 0) with E " + coins, x.reply(0, 0), coins);
            due("reply(1, 39) with E " + coins, x.reply(1, 39), coins);
            Check.rule(x, "E" + Check.two(coins) + "M00");
            due("reply(0, 0) with E " + coins, x.reply(0, 0), 0);
        }
    }

    private static void replyWithFines() {
        Check.says(29, "with what others then pay to fine it, and what it pays itself");
        // M 00: a coin that is put is lost; 10 less cost 9 fines, F 1 each.
        PotAndFine x = Check.of("M00F1", "ZG09");
        x.tell(1, 0, 20);
        // v and 20: the mean is 10 and half of v; v is short of it by 10 less half of v.
        due("gain(0, 0, 0): 10 short, 9 paid", x.gain(0, 0, 0), SUM + 600 * (20 - 9));
        due("gain(0, 0, 2): 9 short", x.gain(0, 0, 2), SUM + 600 * (18 - 9));
        due("gain(0, 0, 4): 8 short", x.gain(0, 0, 4), SUM + 600 * (16 - 8));
        due("reply(0, 0)", x.reply(0, 0), 0);
        x.fine(9);
        due("gain(0, 0, 18): 1 short", x.gain(0, 0, 18), SUM + 600 * (2 - 9));
        due("gain(0, 0, 19): not short", x.gain(0, 0, 19), SUM + 600);
        due("reply(0, 0) by F 9", x.reply(0, 0), 19);
        // 0 and 2: the mean is 1; 1 and 2: the mean is 1. 20 less 2 is less than 19.
        x.fine(2);
        x.tell(1, 0, 2);
        due("gain(0, 0, 0): 1 short", x.gain(0, 0, 0), SUM + 600 * (20 - 2));
        due("gain(0, 0, 1): not short", x.gain(0, 0, 1), SUM + 600 * 19);
        due("reply(0, 0), a coin better than none", x.reply(0, 0), 1);
        x.fine(1);
        due("reply(0, 0), a coin as good as none", x.reply(0, 0), 0);
        x.fine(9);
        x.tell(1, 0, 20);
        // G pays less the less it puts itself: 20 and 0.
        due("gain(1, 0, 20): it pays 9", x.gain(1, 0, 20), SUM - 600 * 9);
        due("gain(1, 0, 2): it pays 1", x.gain(1, 0, 2), SUM + 600 * (18 - 1));
        due("gain(1, 0, 1): it pays nothing", x.gain(1, 0, 1), SUM + 600 * 19);
        due("gain(1, 0, 0)", x.gain(1, 0, 0), SUM + 600 * 20);
        due("reply(1, 0)", x.reply(1, 0), 0);
        due("put(1, 0): nothing is changed", x.put(1, 0), 20);
        due("paid(1, 0, 0)", x.paid(1, 0, 0), 9);
    }

    private static void replyByWhatWasPaidBefore() {
        Check.says(29, "what it pays itself, others putting as they did: V by what was paid in the ROUND before");
        PotAndFine x = Check.of("M00F1C2", "V09G09");
        Check.tellRound(x, 0, 0, 12);
        Check.tellRound(x, 1, 10, 10);
        due("paid(0, 1, 1)", x.paid(0, 1, 1), 6);
        due("gain(0, 1, 10): 6 paid back", x.gain(0, 1, 10), SUM + 600 * (10 - 12));
        due("gain(0, 1, 14): 2 and 6", x.gain(0, 1, 14), SUM + 600 * (6 - 16));
        due("gain(0, 1, 6): 6 paid back, 2 paid by G", x.gain(0, 1, 6), SUM + 600 * (14 - 12 - 2));
        due("gain(0, 1, 20): 9 at most", x.gain(0, 1, 20), SUM + 600 * (0 - 18));
        due("gain(1, 1, 10): 6 are paid to fine it", x.gain(1, 1, 10), SUM + 600 * (10 - 6));
        due("gain(0, 0, 12): none before", x.gain(0, 0, 12), SUM + 600 * 8);
        Check.tellRound(x, 5, 0, 8);
        Check.tellRound(x, 6, 10, 10);
        due("gain(1, 6, 10): 4 are paid to fine it", x.gain(1, 6, 10), SUM + 600 * (10 - 4));
        due("gain(1, 6, 4): 3 less, and 4", x.gain(1, 6, 4), SUM + 600 * (16 - 7));
        due("gain(0, 6, 10): 4 paid back", x.gain(0, 6, 10), SUM + 600 * (10 - 8));
        Check.says(29, "most in that ROUND, all others putting as they did in it");
        PotAndFine other = Check.of("M10", "ZP05");
        other.tell(1, 7, 20);
        due("reply(0, 7)", other.reply(0, 7), 0);
        due("reply(0, 0)", other.reply(0, 0), 0);
        other.tell(1, 7, 0);
        Check.rule(other, "M30");
        due("reply(0, 7)", other.reply(0, 7), 20);
    }

    private static void replyIsRefused() {
        Check.says(29, "UNKNOWN; LATE: it is OUT");
        PotAndFine x = Check.of("M60", "ZZZ");
        x.send(1, 20);
        for (int person : Check.noPerson(3)) {
            due("reply(" + person + ", 0)", x.reply(person, 0), UNKNOWN);
            due("reply(" + person + ", 40)", x.reply(person, 40), UNKNOWN);
        }
        for (int round : Check.NO_ROUND) {
            due("reply(0, " + round + ")", x.reply(0, round), UNKNOWN);
            due("reply(1, " + round + ")", x.reply(1, round), UNKNOWN);
        }
        due("reply(1, 19)", x.reply(1, 19), 20);
        due("reply(1, 20)", x.reply(1, 20), LATE);
        due("reply(1, 39)", x.reply(1, 39), LATE);
        x.send(1, 0);
        due("reply(1, 0)", x.reply(1, 0), LATE);
        due("reply(2, 0)", x.reply(2, 0), 20);
    }

    private static void gainsOfAllPuts() {
        Check.says(30, "What one would get in a ROUND by a PUT (0 .. E)");
        for (int coins : new int[] {1, 2, 19, 20}) {
            PotAndFine x = Check.of("E" + Check.two(coins), "ZP01");
            for (int v = 0; v <= coins; v++) {
                due("gain(0, 7, " + v + ") with E " + coins, x.gain(0, 7, v), SUM + 600 * (coins - v) + 480 * (v + 1));
            }
            due("gain(0, 7, -1) with E " + coins, x.gain(0, 7, -1), BAD);
            due("gain(0, 7, E + 1) with E " + coins, x.gain(0, 7, coins + 1), BAD);
            due("gain of what was put", x.gain(1, 0, 1), x.holds(1, 0));
        }
        PotAndFine sent = Check.of("M60", "P20P20P20");
        sent.send(0, 4);
        due("gain(1, 3, 0)", sent.gain(1, 3, 0), SUM + 12000 + 40 * 1200);
        due("gain(1, 4, 0): two are IN", sent.gain(1, 4, 0), SUM + 12000 + 20 * 1800);
    }

    private static void gainIsRefused() {
        Check.says(30, "UNKNOWN; BAD: put; LATE: it is OUT: of several what is told first");
        PotAndFine x = Check.of("E09", "ZZZ");
        x.send(1, 20);
        for (int person : Check.noPerson(3)) {
            due("gain(" + person + ", 0, 0)", x.gain(person, 0, 0), UNKNOWN);
            due("gain(" + person + ", 0, 10)", x.gain(person, 0, 10), UNKNOWN);
        }
        for (int round : Check.NO_ROUND) {
            due("gain(0, " + round + ", 0)", x.gain(0, round, 0), UNKNOWN);
            due("gain(1, " + round + ", 10)", x.gain(1, round, 10), UNKNOWN);
        }
        for (int v : new int[] {-1, 10, 20, -9, Check.LOWEST, Check.HIGHEST}) {
            due("gain(0, 0, " + v + ")", x.gain(0, 0, v), BAD);
            due("gain(1, 20, " + v + "), OUT", x.gain(1, 20, v), BAD);
        }
        due("gain(1, 19, 9)", x.gain(1, 19, 9), SUM + 9 * 320);
        due("gain(1, 20, 9)", x.gain(1, 20, 9), LATE);
        due("gain(1, 39, 0)", x.gain(1, 39, 0), LATE);
        due("gain(2, 39, 9)", x.gain(2, 39, 9), SUM + 9 * 480);
    }

    // -- promise 31

    private static void restOfThoseThatAreIn() {
        Check.says(31, "each that is IN put so that no other PUT would have given it more");
        PotAndFine x = Check.of("", "ZZP01");
        due("rest(5): the last one put 1", x.rest(5), 0);
        x.send(2, 5);
        due("rest(5): it is OUT", x.rest(5), 1);
        due("rest(4)", x.rest(4), 0);
        due("rest(39)", x.rest(39), 1);
        PotAndFine first = Check.of("", "P01ZZ");
        due("rest(0): the first one put 1", first.rest(0), 0);
        first.tell(0, 0, 0);
        due("rest(0): none put", first.rest(0), 1);
        PotAndFine full = Check.of("M21", "P20P20");
        due("rest(0): all put all", full.rest(0), 1);
        full.tell(1, 39, 19);
        due("rest(39): 1 less", full.rest(39), 0);
        for (int size = 2; size <= 6; size++) {
            PotAndFine none = Check.of("F9", "ZZZZZZ".substring(0, size));
            due("rest(0) of " + size, none.rest(0), 1);
            none.tell(size - 1, 0, 1);
            due("rest(0) of " + size + ", the last one put 1", none.rest(0), 0);
            due("rest(39) of " + size, none.rest(39), 1);
        }
    }

    private static void restByEachOnesOwnReply() {
        Check.says(31, "each that is IN: its own PUT, its own best, in that ROUND");
        // S pays 1 if it puts less, so 1 is its best; the other one would get more by 0.
        PotAndFine x = Check.of("E03M10F2", "S09Z");
        Check.tellRound(x, 0, 1, 1);
        due("reply(0, 0)", x.reply(0, 0), 1);
        due("reply(1, 0)", x.reply(1, 0), 0);
        due("rest(0): the other one is not at its best", x.rest(0), 0);
        // S 0 in ROUND 0: who puts is fined. S 20 in ROUND 5: who puts gets 1.5 back, and is not above the mean.
        PotAndFine y = Check.of("M30F9", "ZS09");
        Check.tellRound(y, 0, 0, 0);
        Check.tellRound(y, 5, 0, 20);
        due("reply(0, 0)", y.reply(0, 0), 0);
        due("reply(0, 5)", y.reply(0, 5), 20);
        due("reply(1, 5)", y.reply(1, 5), 20);
        due("rest(5)", y.rest(5), 0);
        y.tell(0, 5, 20);
        due("rest(5), both at their best", y.rest(5), 1);
        PotAndFine later = Check.of("M21", "P20P20");
        Check.tellRound(later, 0, 0, 0);
        Check.tellRound(later, 1, 0, 0);
        due("rest(0)", later.rest(0), 0);
        due("rest(7)", later.rest(7), 1);
        Check.says(31, "each that is IN: one more or less of them");
        PotAndFine first = Check.of("", "ZP01P01");
        first.send(0, 5);
        due("rest(5): 0 is OUT, 1 and 2 put", first.rest(5), 0);
        PotAndFine last = Check.of("", "ZZZP01");
        last.send(3, 3);
        due("rest(2): 3 is IN and put", last.rest(2), 0);
        due("rest(3): 3 is OUT", last.rest(3), 1);
        PotAndFine missed = Check.of("M60", "P20P20Z");
        due("rest(4): who put nothing would get more by 20", missed.rest(4), 0);
        missed.send(2, 5);
        due("rest(4)", missed.rest(4), 0);
        due("rest(5): it is OUT", missed.rest(5), 1);
    }

    private static void restOfLikeOnes() {
        Check.says(31, "AT REST: no other PUT would have given it more; as much is no more");
        PotAndFine x = Check.of("M20", "P07P11");
        due("rest(0), all PUTS alike", x.rest(0), 1);
        due("reply(0, 0) is another PUT", x.reply(0, 0), 0);
        Check.rule(x, "M21");
        due("rest(0), more by more", x.rest(0), 0);
        Check.rule(x, "M19");
        due("rest(0), more by less", x.rest(0), 0);
    }

    private static void restIsRefused() {
        Check.says(31, "UNKNOWN");
        PotAndFine x = new PotAndFine();
        for (int round : Check.NO_ROUND) {
            due("rest(" + round + ")", x.rest(round), UNKNOWN);
        }
        due("rest(0)", x.rest(0), 1);
        due("rest(39)", x.rest(39), 1);
    }
}
